section CM
variable {l : Launch} {D : va_G} {a : Nat → Nat} {cI cJ cC cZ : ClassId}
set_option maxRecDepth 100000 in
set_option maxHeartbeats 4000000 in
theorem c_JI_bitCount (u : US) (x : Int32)  : MI l D vwCl (CT cI cJ cC cZ) (CW a cI cJ cC) y_JI_bitCount (wA y_JI_bitCount prog_9_method_49_code 1 (some .int)) { frames := 0, cells := 0, slots := 0, locals := 0 } [.int x] u (pcI x) (u) := by
  refine MI.of (cc := prog_9_method_49_code) (nL := 1) (by decide) rfl (Nat.le_of_ble_eq_true rfl) ?_
  intro p e s m below meth c A Q K ret
  refine z_lvE (lv' := [(0, .int x)]) rfl ?_
  refine z_iload_n (pc := 0) K d_JI_bitCount_0 rfl ?_
  refine z_iload_n (pc := 1) K d_JI_bitCount_1 rfl ?_
  refine z_iconst (pc := 2) K (v := 1) d_JI_bitCount_2 (by decide) ?_
  refine z_iushr (pc := 3) K d_JI_bitCount_3 ?_
  refine z_ldcw (pc := 4) K (v := 1431655765) k354 d_JI_bitCount_4 ?_
  refine z_iand (pc := 7) K d_JI_bitCount_7 ?_
  refine z_isub (pc := 8) K d_JI_bitCount_8 ?_
  refine z_istore_n (pc := 9) K d_JI_bitCount_9 rfl (by decide) rfl ?_
  refine z_iload_n (pc := 10) K d_JI_bitCount_10 rfl ?_
  refine z_ldcw (pc := 11) K (v := 858993459) k355 d_JI_bitCount_11 ?_
  refine z_iand (pc := 14) K d_JI_bitCount_14 ?_
  refine z_iload_n (pc := 15) K d_JI_bitCount_15 rfl ?_
  refine z_iconst (pc := 16) K (v := 2) d_JI_bitCount_16 (by decide) ?_
  refine z_iushr (pc := 17) K d_JI_bitCount_17 ?_
  refine z_ldcw (pc := 18) K (v := 858993459) k355 d_JI_bitCount_18 ?_
  refine z_iand (pc := 21) K d_JI_bitCount_21 ?_
  refine z_iadd (pc := 22) K d_JI_bitCount_22 ?_
  refine z_istore_n (pc := 23) K d_JI_bitCount_23 rfl (by decide) rfl ?_
  refine z_iload_n (pc := 24) K d_JI_bitCount_24 rfl ?_
  refine z_iload_n (pc := 25) K d_JI_bitCount_25 rfl ?_
  refine z_iconst (pc := 26) K (v := 4) d_JI_bitCount_26 (by decide) ?_
  refine z_iushr (pc := 27) K d_JI_bitCount_27 ?_
  refine z_iadd (pc := 28) K d_JI_bitCount_28 ?_
  refine z_ldcw (pc := 29) K (v := 252645135) k356 d_JI_bitCount_29 ?_
  refine z_iand (pc := 32) K d_JI_bitCount_32 ?_
  refine z_istore_n (pc := 33) K d_JI_bitCount_33 rfl (by decide) rfl ?_
  refine z_iload_n (pc := 34) K d_JI_bitCount_34 rfl ?_
  refine z_iload_n (pc := 35) K d_JI_bitCount_35 rfl ?_
  refine z_bipush (pc := 36) K (v := 8) d_JI_bitCount_36 (by decide) ?_
  refine z_iushr (pc := 38) K d_JI_bitCount_38 ?_
  refine z_iadd (pc := 39) K d_JI_bitCount_39 ?_
  refine z_istore_n (pc := 40) K d_JI_bitCount_40 rfl (by decide) rfl ?_
  refine z_iload_n (pc := 41) K d_JI_bitCount_41 rfl ?_
  refine z_iload_n (pc := 42) K d_JI_bitCount_42 rfl ?_
  refine z_bipush (pc := 43) K (v := 16) d_JI_bitCount_43 (by decide) ?_
  refine z_iushr (pc := 45) K d_JI_bitCount_45 ?_
  refine z_iadd (pc := 46) K d_JI_bitCount_46 ?_
  refine z_istore_n (pc := 47) K d_JI_bitCount_47 rfl (by decide) rfl ?_
  refine z_iload_n (pc := 48) K d_JI_bitCount_48 rfl ?_
  refine z_bipush (pc := 49) K (v := 63) d_JI_bitCount_49 (by decide) ?_
  refine z_iand (pc := 51) K d_JI_bitCount_51 ?_
  exact z_reti (pc := 52) ret d_JI_bitCount_52 rfl rfl
set_option maxRecDepth 100000 in
set_option maxHeartbeats 4000000 in
theorem c_JL_bitCount (u : US) (x : Int64)  : MI l D vwCl (CT cI cJ cC cZ) (CW a cI cJ cC) y_JL_bitCount (wA y_JL_bitCount prog_10_method_50_code 2 (some .int)) { frames := 0, cells := 0, slots := 0, locals := 0 } [.long x] u (pcL x) (u) := by
  refine MI.of (cc := prog_10_method_50_code) (nL := 2) (by decide) rfl (Nat.le_of_ble_eq_true rfl) ?_
  intro p e s m below meth c A Q K ret
  refine z_lvE (lv' := [(0, .long x)]) rfl ?_
  refine z_lload_n (pc := 0) K d_JL_bitCount_0 rfl ?_
  refine z_lload_n (pc := 1) K d_JL_bitCount_1 rfl ?_
  refine z_iconst (pc := 2) K (v := 1) d_JL_bitCount_2 (by decide) ?_
  refine z_lushr (pc := 3) K d_JL_bitCount_3 ?_
  refine z_ldc2 (pc := 4) K (v := 6148914691236517205) k206 d_JL_bitCount_4 ?_
  refine z_land (pc := 7) K d_JL_bitCount_7 ?_
  refine z_lsub (pc := 8) K d_JL_bitCount_8 ?_
  refine z_lstore_n (pc := 9) K d_JL_bitCount_9 rfl (by decide) rfl ?_
  refine z_lload_n (pc := 10) K d_JL_bitCount_10 rfl ?_
  refine z_ldc2 (pc := 11) K (v := 3689348814741910323) k207 d_JL_bitCount_11 ?_
  refine z_land (pc := 14) K d_JL_bitCount_14 ?_
  refine z_lload_n (pc := 15) K d_JL_bitCount_15 rfl ?_
  refine z_iconst (pc := 16) K (v := 2) d_JL_bitCount_16 (by decide) ?_
  refine z_lushr (pc := 17) K d_JL_bitCount_17 ?_
  refine z_ldc2 (pc := 18) K (v := 3689348814741910323) k207 d_JL_bitCount_18 ?_
  refine z_land (pc := 21) K d_JL_bitCount_21 ?_
  refine z_ladd (pc := 22) K d_JL_bitCount_22 ?_
  refine z_lstore_n (pc := 23) K d_JL_bitCount_23 rfl (by decide) rfl ?_
  refine z_lload_n (pc := 24) K d_JL_bitCount_24 rfl ?_
  refine z_lload_n (pc := 25) K d_JL_bitCount_25 rfl ?_
  refine z_iconst (pc := 26) K (v := 4) d_JL_bitCount_26 (by decide) ?_
  refine z_lushr (pc := 27) K d_JL_bitCount_27 ?_
  refine z_ladd (pc := 28) K d_JL_bitCount_28 ?_
  refine z_ldc2 (pc := 29) K (v := 1085102592571150095) k208 d_JL_bitCount_29 ?_
  refine z_land (pc := 32) K d_JL_bitCount_32 ?_
  refine z_lstore_n (pc := 33) K d_JL_bitCount_33 rfl (by decide) rfl ?_
  refine z_lload_n (pc := 34) K d_JL_bitCount_34 rfl ?_
  refine z_lload_n (pc := 35) K d_JL_bitCount_35 rfl ?_
  refine z_bipush (pc := 36) K (v := 8) d_JL_bitCount_36 (by decide) ?_
  refine z_lushr (pc := 38) K d_JL_bitCount_38 ?_
  refine z_ladd (pc := 39) K d_JL_bitCount_39 ?_
  refine z_lstore_n (pc := 40) K d_JL_bitCount_40 rfl (by decide) rfl ?_
  refine z_lload_n (pc := 41) K d_JL_bitCount_41 rfl ?_
  refine z_lload_n (pc := 42) K d_JL_bitCount_42 rfl ?_
  refine z_bipush (pc := 43) K (v := 16) d_JL_bitCount_43 (by decide) ?_
  refine z_lushr (pc := 45) K d_JL_bitCount_45 ?_
  refine z_ladd (pc := 46) K d_JL_bitCount_46 ?_
  refine z_lstore_n (pc := 47) K d_JL_bitCount_47 rfl (by decide) rfl ?_
  refine z_lload_n (pc := 48) K d_JL_bitCount_48 rfl ?_
  refine z_lload_n (pc := 49) K d_JL_bitCount_49 rfl ?_
  refine z_bipush (pc := 50) K (v := 32) d_JL_bitCount_50 (by decide) ?_
  refine z_lushr (pc := 52) K d_JL_bitCount_52 ?_
  refine z_ladd (pc := 53) K d_JL_bitCount_53 ?_
  refine z_lstore_n (pc := 54) K d_JL_bitCount_54 rfl (by decide) rfl ?_
  refine z_lload_n (pc := 55) K d_JL_bitCount_55 rfl ?_
  refine z_l2i (pc := 56) K d_JL_bitCount_56 ?_
  refine z_bipush (pc := 57) K (v := 127) d_JL_bitCount_57 (by decide) ?_
  refine z_iand (pc := 59) K d_JL_bitCount_59 ?_
  exact z_reti (pc := 60) ret d_JL_bitCount_60 rfl rfl
set_option maxRecDepth 100000 in
set_option maxHeartbeats 4000000 in
theorem c_D_isWanted (u : US) (pl : Int64)  : MI l D vwCl (CT cI cJ cC cZ) (CW a cI cJ cC) y_D_isWanted (wA y_D_isWanted prog_1_method_37_code 2 (some .boolean)) { frames := 0, cells := 0, slots := 0, locals := 0 } [.long pl] u (bI (s_want pl)) (u) := by
  refine MI.ofZ (cc := prog_1_method_37_code) (nL := 2) (by decide) rfl (Nat.le_of_ble_eq_true rfl) ?_
  intro p e s m below meth c A Q K ret
  refine z_lvE (lv' := [(0, .long pl)]) rfl ?_
  refine z_lload_n (pc := 0) K d_D_isWanted_0 rfl ?_
  refine z_ldc2 (pc := 1) K (v := 281474976710656) k197 d_D_isWanted_1 ?_
  refine z_land (pc := 4) K d_D_isWanted_4 ?_
  refine z_lconst (pc := 5) K (v := 0) d_D_isWanted_5 (by decide) ?_
  refine z_lcmp (pc := 6) K d_D_isWanted_6 ?_
  refine z_ifl_ne (pc := 7) K (tgt := 14) d_D_isWanted_7 (by decide) (fun c7 => ?_) (fun c7 => ?_)
  · refine z_iconst (pc := 14) K (v := 0) d_D_isWanted_14 (by decide) ?_
    refine z_eqi (y := bI false) rfl ?_
    exact z_reti (pc := 15) ret d_D_isWanted_15 (by simp [s_want, c7]) rfl
  · refine z_iconst (pc := 10) K (v := 1) d_D_isWanted_10 (by decide) ?_
    refine z_goto (pc := 11) K (tgt := 15) d_D_isWanted_11 (by decide) ?_
    refine z_eqi (y := bI true) rfl ?_
    exact z_reti (pc := 15) ret d_D_isWanted_15 (by simp [s_want, c7]) rfl
set_option maxRecDepth 100000 in
set_option maxHeartbeats 4000000 in
theorem c_D_hasVersion (u : US) (set : Int64) (v : Int32)  : MI l D vwCl (CT cI cJ cC cZ) (CW a cI cJ cC) y_D_hasVersion (wA y_D_hasVersion prog_1_method_38_code 3 (some .boolean)) { frames := 0, cells := 0, slots := 0, locals := 0 } [.long set, .int v] u (bI (s_hv set v)) (u) := by
  refine MI.ofZ (cc := prog_1_method_38_code) (nL := 3) (by decide) rfl (Nat.le_of_ble_eq_true rfl) ?_
  intro p e s m below meth c A Q K ret
  refine z_lvE (lv' := [(0, .long set), (2, .int v)]) rfl ?_
  refine z_iload_n (pc := 0) K d_D_hasVersion_0 rfl ?_
  refine z_if_lt (pc := 1) K (tgt := 24) d_D_hasVersion_1 (by decide) (fun c1 => ?_) (fun c1 => ?_)
  · refine z_iconst (pc := 24) K (v := 0) d_D_hasVersion_24 (by decide) ?_
    refine z_eqi (y := bI false) rfl ?_
    exact z_reti (pc := 25) ret d_D_hasVersion_25 (by simp [s_hv, c1]) rfl
  · refine z_iload_n (pc := 4) K d_D_hasVersion_4 rfl ?_
    refine z_bipush (pc := 5) K (v := 48) d_D_hasVersion_5 (by decide) ?_
    refine z_icmp_ge (pc := 7) K (tgt := 24) d_D_hasVersion_7 (by decide) (fun c7 => ?_) (fun c7 => ?_)
    · refine z_iconst (pc := 24) K (v := 0) d_D_hasVersion_24 (by decide) ?_
      refine z_eqi (y := bI false) rfl ?_
      exact z_reti (pc := 25) ret d_D_hasVersion_25 (by simp [s_hv, c1, c7]) rfl
    · refine z_lload_n (pc := 10) K d_D_hasVersion_10 rfl ?_
      refine z_iload_n (pc := 11) K d_D_hasVersion_11 rfl ?_
      refine z_lushr (pc := 12) K d_D_hasVersion_12 ?_
      refine z_lconst (pc := 13) K (v := 1) d_D_hasVersion_13 (by decide) ?_
      refine z_land (pc := 14) K d_D_hasVersion_14 ?_
      refine z_lconst (pc := 15) K (v := 0) d_D_hasVersion_15 (by decide) ?_
      refine z_lcmp (pc := 16) K d_D_hasVersion_16 ?_
      refine z_ifl_eq (pc := 17) K (tgt := 24) d_D_hasVersion_17 (by decide) (fun c17 => ?_) (fun c17 => ?_)
      · refine z_iconst (pc := 24) K (v := 0) d_D_hasVersion_24 (by decide) ?_
        refine z_eqi (y := bI false) rfl ?_
        exact z_reti (pc := 25) ret d_D_hasVersion_25 (by simp [s_hv, c1, c7, c17]) rfl
      · refine z_iconst (pc := 20) K (v := 1) d_D_hasVersion_20 (by decide) ?_
        refine z_goto (pc := 21) K (tgt := 25) d_D_hasVersion_21 (by decide) ?_
        refine z_eqi (y := bI true) rfl ?_
        exact z_reti (pc := 25) ret d_D_hasVersion_25 (by simp [s_hv, c1, c7, c17]) rfl
set_option maxRecDepth 100000 in
set_option maxHeartbeats 4000000 in
theorem c_D_relation (u : US) (f : Int64) (g : Int64)  : MI l D vwCl (CT cI cJ cC cZ) (CW a cI cJ cC) y_D_relation (wA y_D_relation prog_1_method_39_code 4 (some .int)) { frames := 0, cells := 0, slots := 0, locals := 0 } [.long f, .long g] u (s_rel f g) (u) := by
  refine MI.of (cc := prog_1_method_39_code) (nL := 4) (by decide) rfl (Nat.le_of_ble_eq_true rfl) ?_
  intro p e s m below meth c A Q K ret
  refine z_lvE (lv' := [(0, .long f), (2, .long g)]) rfl ?_
  refine z_lload_n (pc := 0) K d_D_relation_0 rfl ?_
  refine z_lload_n (pc := 1) K d_D_relation_1 rfl ?_
  refine z_land (pc := 2) K d_D_relation_2 ?_
  refine z_lconst (pc := 3) K (v := 0) d_D_relation_3 (by decide) ?_
  refine z_lcmp (pc := 4) K d_D_relation_4 ?_
  refine z_ifl_ne (pc := 5) K (tgt := 10) d_D_relation_5 (by decide) (fun c5 => ?_) (fun c5 => ?_)
  · refine z_lload_n (pc := 10) K d_D_relation_10 rfl ?_
    refine z_lload_n (pc := 11) K d_D_relation_11 rfl ?_
    refine z_ldc2 (pc := 12) K (v := (-1)) k185 d_D_relation_12 ?_
    refine z_lxor (pc := 15) K d_D_relation_15 ?_
    refine z_land (pc := 16) K d_D_relation_16 ?_
    refine z_lconst (pc := 17) K (v := 0) d_D_relation_17 (by decide) ?_
    refine z_lcmp (pc := 18) K d_D_relation_18 ?_
    refine z_ifl_ne (pc := 19) K (tgt := 26) d_D_relation_19 (by decide) (fun c19 => ?_) (fun c19 => ?_)
    · refine z_iconst (pc := 26) K (v := 0) d_D_relation_26 (by decide) ?_
      exact z_reti (pc := 27) ret d_D_relation_27 (by rw [s_rel, if_neg c5, if_neg c19]) rfl
    · refine z_iconst (pc := 22) K (v := 1) d_D_relation_22 (by decide) ?_
      refine z_goto (pc := 23) K (tgt := 27) d_D_relation_23 (by decide) ?_
      exact z_reti (pc := 27) ret d_D_relation_27 (by rw [s_rel, if_neg c5, if_pos c19]) rfl
  · refine z_iconst (pc := 8) K (v := (-1)) d_D_relation_8 (by decide) ?_
    exact z_reti (pc := 9) ret d_D_relation_9 (by rw [s_rel, if_pos c5]) rfl
set_option maxRecDepth 100000 in
set_option maxHeartbeats 4000000 in
theorem c_N_size (u : US)   : MI l D vwCl (CT cI cJ cC cZ) (CW a cI cJ cC) y_N_size (wA y_N_size prog_3_method_2_code 1 (some .int)) { frames := 0, cells := 0, slots := 0, locals := 0 } [.ref (a 1)] u (nI (uN u).1) (u) := by
  refine MI.of (cc := prog_3_method_2_code) (nL := 1) (by decide) rfl (Nat.le_of_ble_eq_true rfl) ?_
  intro p e s m below meth c A Q K ret
  refine z_lvE (lv' := [(0, .ref (a 1))]) rfl ?_
  refine z_aload_n (pc := 0) K d_N_size_0 rfl ?_
  refine z_get (pc := 1) K (ref := "DemandTerms$Names") d_N_size_1 hi_N 1 rfl rfl 1 (by decide) k25 rfl rfl ?_
  exact z_reti (pc := 4) ret d_N_size_4 rfl rfl
set_option maxRecDepth 100000 in
set_option maxHeartbeats 4000000 in
theorem c_N_has (u : US) (x : Int32)  : MI l D vwCl (CT cI cJ cC cZ) (CW a cI cJ cC) y_N_has (wA y_N_has prog_3_method_4_code 2 (some .boolean)) { frames := 0, cells := 0, slots := 0, locals := 0 } [.ref (a 1), .int x] u (bI (hasIx (uN u).1 x)) (u) := by
  refine MI.ofZ (cc := prog_3_method_4_code) (nL := 2) (by decide) rfl (Nat.le_of_ble_eq_true rfl) ?_
  intro p e s m below meth c A Q K ret
  refine z_lvE (lv' := [(0, .ref (a 1)), (1, .int x)]) rfl ?_
  refine z_iload_n (pc := 0) K d_N_has_0 rfl ?_
  refine z_if_lt (pc := 1) K (tgt := 16) d_N_has_1 (by decide) (fun c1 => ?_) (fun c1 => ?_)
  · refine z_iconst (pc := 16) K (v := 0) d_N_has_16 (by decide) ?_
    refine z_eqi (y := bI false) rfl ?_
    exact z_reti (pc := 17) ret d_N_has_17 (by simp [hasIx, c1]) rfl
  · refine z_iload_n (pc := 4) K d_N_has_4 rfl ?_
    refine z_aload_n (pc := 5) K d_N_has_5 rfl ?_
    refine z_get (pc := 6) K (ref := "DemandTerms$Names") d_N_has_6 hi_N 1 rfl rfl 1 (by decide) k25 rfl rfl ?_
    refine z_icmp_ge (pc := 9) K (tgt := 16) d_N_has_9 (by decide) (fun c9 => ?_) (fun c9 => ?_)
    · refine z_iconst (pc := 16) K (v := 0) d_N_has_16 (by decide) ?_
      refine z_eqi (y := bI false) rfl ?_
      exact z_reti (pc := 17) ret d_N_has_17 (by simp [hasIx, c1, c9]) rfl
    · refine z_iconst (pc := 12) K (v := 1) d_N_has_12 (by decide) ?_
      refine z_goto (pc := 13) K (tgt := 17) d_N_has_13 (by decide) ?_
      refine z_eqi (y := bI true) rfl ?_
      exact z_reti (pc := 17) ret d_N_has_17 (by simp [hasIx, c1, c9]) rfl
set_option maxRecDepth 100000 in
set_option maxHeartbeats 4000000 in
theorem c_N_everywhere (u : US) (x : Int32) (hu : uOk u) : ML l D vwCl (CT cI cJ cC cZ) (CW a cI cJ cC) y_N_everywhere (wA y_N_everywhere prog_3_method_6_code 2 (some .long)) { frames := 1, cells := 0, slots := 0, locals := 21 } [.ref (a 1), .int x] u (n_ev (uN u) x) (u) := by
  refine ML.of (cc := prog_3_method_6_code) (nL := 2) (by decide) rfl (Nat.le_of_ble_eq_true rfl) ?_
  intro p e s m below meth c A Q K ret
  refine z_lvE (lv' := [(0, .ref (a 1)), (1, .int x)]) rfl ?_
  refine z_aload_n (pc := 0) K d_N_everywhere_0 rfl ?_
  refine z_iload_n (pc := 1) K d_N_everywhere_1 rfl ?_
  refine z_cVi (pc := 2) K 1 (c_N_has _ _ ) (cwA K 1 k142 k143 k144 k2 k145 q_N_has ⟨Nat.le_of_ble_eq_true rfl, Nat.le_of_ble_eq_true rfl⟩) d_N_everywhere_2 rfl rfl rfl rfl rfl (Nat.le_of_ble_eq_true rfl) ⟨Nat.le_of_ble_eq_true rfl, Nat.le_of_ble_eq_true rfl⟩ ?_
  refine z_ifb_eq (pc := 5) K (tgt := 17) d_N_everywhere_5 (by decide) (fun c5 => ?_) (fun c5 => ?_)
  · refine z_lconst (pc := 17) K (v := 0) d_N_everywhere_17 (by decide) ?_
    exact z_retl (pc := 18) ret d_N_everywhere_18 (by simp [n_ev, c5]) rfl
  · refine z_aload_n (pc := 8) K d_N_everywhere_8 rfl ?_
    refine z_get (pc := 9) K (ref := "DemandTerms$Names") d_N_everywhere_9 hi_N 1 rfl rfl 0 (by decide) k24 rfl rfl ?_
    refine z_iload_n (pc := 12) K d_N_everywhere_12 rfl ?_
    refine z_lald (pc := 13) K d_N_everywhere_13 2 1 rfl rfl (hasIx_in c5 hu.1 (by decide)) ?_
    refine z_goto (pc := 14) K (tgt := 18) d_N_everywhere_14 (by decide) ?_
    exact z_retl (pc := 18) ret d_N_everywhere_18 (by simp [n_ev, c5]) rfl
set_option maxRecDepth 100000 in
set_option maxHeartbeats 4000000 in
theorem c_N_hasVersion (u : US) (x : Int32) (v : Int32) (hu : uOk u) : MI l D vwCl (CT cI cJ cC cZ) (CW a cI cJ cC) y_N_hasVersion (wA y_N_hasVersion prog_3_method_5_code 3 (some .boolean)) { frames := 2, cells := 0, slots := 0, locals := 42 } [.ref (a 1), .int x, .int v] u (bI (s_hv (n_ev (uN u) x) v)) (u) := by
  refine MI.ofZ (cc := prog_3_method_5_code) (nL := 3) (by decide) rfl (Nat.le_of_ble_eq_true rfl) ?_
  intro p e s m below meth c A Q K ret
  refine z_lvE (lv' := [(0, .ref (a 1)), (1, .int x), (2, .int v)]) rfl ?_
  refine z_aload_n (pc := 0) K d_N_hasVersion_0 rfl ?_
  refine z_iload_n (pc := 1) K d_N_hasVersion_1 rfl ?_
  refine z_cVl (pc := 2) K 1 (c_N_everywhere _ _ hu) (cwA K 1 k155 k139 k140 k2 k141 q_N_everywhere ⟨Nat.le_of_ble_eq_true rfl, Nat.le_of_ble_eq_true rfl⟩) d_N_hasVersion_2 rfl rfl rfl rfl rfl (Nat.le_of_ble_eq_true rfl) ⟨Nat.le_of_ble_eq_true rfl, Nat.le_of_ble_eq_true rfl⟩ ?_
  refine z_iload_n (pc := 5) K d_N_hasVersion_5 rfl ?_
  refine z_cSNi (pc := 6) K (c_D_hasVersion _ _ _ ) (cwSN K 2 (own := "DemandTerms$Names") (index := 25) (host := "DemandTerms") (by decide +kernel) k222 k1 k223 q_D_hasVersion.2 ⟨Nat.le_of_ble_eq_true rfl, Nat.le_of_ble_eq_true rfl⟩) d_N_hasVersion_6 rfl rfl (Nat.le_of_ble_eq_true rfl) ⟨Nat.le_of_ble_eq_true rfl, Nat.le_of_ble_eq_true rfl⟩ ?_
  exact z_reti (pc := 9) ret d_N_hasVersion_9 rfl rfl
set_option maxRecDepth 100000 in
set_option maxHeartbeats 4000000 in
theorem c_N_placesOf (u : US) (x : Int32) (set : Int64) (w : Int32) (hu : uOk u) : ML l D vwCl (CT cI cJ cC cZ) (CW a cI cJ cC) y_N_placesOf (wA y_N_placesOf prog_3_method_7_code 7 (some .long)) { frames := 2, cells := 0, slots := 0, locals := 42 } [.ref (a 1), .int x, .long set, .int w] u (n_po (uN u) x set w) (u) := by
  refine ML.of (cc := prog_3_method_7_code) (nL := 7) (by decide) rfl (Nat.le_of_ble_eq_true rfl) ?_
  intro p e s m below meth c A Q K ret
  refine z_lvE (lv' := [(0, .ref (a 1)), (1, .int x), (2, .long set), (4, .int w)]) rfl ?_
  refine z_lload_n (pc := 0) K d_N_placesOf_0 rfl ?_
  refine z_aload_n (pc := 1) K d_N_placesOf_1 rfl ?_
  refine z_iload_n (pc := 2) K d_N_placesOf_2 rfl ?_
  refine z_cVl (pc := 3) K 1 (c_N_everywhere _ _ hu) (cwA K 1 k155 k139 k140 k2 k141 q_N_everywhere ⟨Nat.le_of_ble_eq_true rfl, Nat.le_of_ble_eq_true rfl⟩) d_N_placesOf_3 rfl rfl rfl rfl rfl (Nat.le_of_ble_eq_true rfl) ⟨Nat.le_of_ble_eq_true rfl, Nat.le_of_ble_eq_true rfl⟩ ?_
  refine z_land (pc := 6) K d_N_placesOf_6 ?_
  refine z_ldc2 (pc := 7) K (v := (-281474976710657)) k156 d_N_placesOf_7 ?_
  refine z_land (pc := 10) K d_N_placesOf_10 ?_
  refine z_lstore (pc := 11) K d_N_placesOf_11 (by decide) rfl ?_
  refine z_iload (pc := 13) K d_N_placesOf_13 rfl ?_
  refine z_if_eq (pc := 15) K (tgt := 23) d_N_placesOf_15 (by decide) (fun c15 => ?_) (fun c15 => ?_)
  · refine z_aload_n (pc := 23) K d_N_placesOf_23 rfl ?_
    refine z_iload_n (pc := 24) K d_N_placesOf_24 rfl ?_
    refine z_cVl (pc := 25) K 1 (c_N_everywhere _ _ hu) (cwA K 1 k155 k139 k140 k2 k141 q_N_everywhere ⟨Nat.le_of_ble_eq_true rfl, Nat.le_of_ble_eq_true rfl⟩) d_N_placesOf_25 rfl rfl rfl rfl rfl (Nat.le_of_ble_eq_true rfl) ⟨Nat.le_of_ble_eq_true rfl, Nat.le_of_ble_eq_true rfl⟩ ?_
    refine z_lload (pc := 28) K d_N_placesOf_28 rfl ?_
    refine z_lxor (pc := 30) K d_N_placesOf_30 ?_
    exact z_retl (pc := 31) ret d_N_placesOf_31 (by simp [n_po, c15]) rfl
  · refine z_lload (pc := 18) K d_N_placesOf_18 rfl ?_
    refine z_goto (pc := 20) K (tgt := 31) d_N_placesOf_20 (by decide) ?_
    exact z_retl (pc := 31) ret d_N_placesOf_31 (by simp [n_po, c15]) rfl
set_option maxRecDepth 100000 in
set_option maxHeartbeats 4000000 in
theorem c_N_setOf (u : US) (x : Int32) (pl : Int64) (hu : uOk u) : ML l D vwCl (CT cI cJ cC cZ) (CW a cI cJ cC) y_N_setOf (wA y_N_setOf prog_3_method_8_code 4 (some .long)) { frames := 2, cells := 0, slots := 0, locals := 42 } [.ref (a 1), .int x, .long pl] u (n_so (uN u) x pl) (u) := by
  refine ML.of (cc := prog_3_method_8_code) (nL := 4) (by decide) rfl (Nat.le_of_ble_eq_true rfl) ?_
  intro p e s m below meth c A Q K ret
  refine z_lvE (lv' := [(0, .ref (a 1)), (1, .int x), (2, .long pl)]) rfl ?_
  refine z_lload_n (pc := 0) K d_N_setOf_0 rfl ?_
  refine z_cSNi (pc := 1) K (c_D_isWanted _ _ ) (cwSN K 1 (own := "DemandTerms$Names") (index := 35) (host := "DemandTerms") (by decide +kernel) k195 k1 k196 q_D_isWanted.2 ⟨Nat.le_of_ble_eq_true rfl, Nat.le_of_ble_eq_true rfl⟩) d_N_setOf_1 rfl rfl (Nat.le_of_ble_eq_true rfl) ⟨Nat.le_of_ble_eq_true rfl, Nat.le_of_ble_eq_true rfl⟩ ?_
  refine z_ifb_eq (pc := 4) K (tgt := 11) d_N_setOf_4 (by decide) (fun c4 => ?_) (fun c4 => ?_)
  · refine z_aload_n (pc := 11) K d_N_setOf_11 rfl ?_
    refine z_iload_n (pc := 12) K d_N_setOf_12 rfl ?_
    refine z_cVl (pc := 13) K 1 (c_N_everywhere _ _ hu) (cwA K 1 k155 k139 k140 k2 k141 q_N_everywhere ⟨Nat.le_of_ble_eq_true rfl, Nat.le_of_ble_eq_true rfl⟩) d_N_setOf_13 rfl rfl rfl rfl rfl (Nat.le_of_ble_eq_true rfl) ⟨Nat.le_of_ble_eq_true rfl, Nat.le_of_ble_eq_true rfl⟩ ?_
    refine z_lload_n (pc := 16) K d_N_setOf_16 rfl ?_
    refine z_lxor (pc := 17) K d_N_setOf_17 ?_
    exact z_retl (pc := 18) ret d_N_setOf_18 (by simp [n_so, c4]) rfl
  · refine z_lload_n (pc := 7) K d_N_setOf_7 rfl ?_
    refine z_goto (pc := 8) K (tgt := 18) d_N_setOf_8 (by decide) ?_
    exact z_retl (pc := 18) ret d_N_setOf_18 (by simp [n_so, c4]) rfl
set_option maxRecDepth 100000 in
set_option maxHeartbeats 4000000 in
theorem c_N_add (u : US) (k : Int32) (hu : uOk u) : MI l D vwCl (CT cI cJ cC cZ) (CW a cI cJ cC) y_N_add (wA y_N_add prog_3_method_3_code 2 (some .int)) { frames := 0, cells := 0, slots := 0, locals := 0 } [.ref (a 1), .int k] u ((n_add (uN u) k).1) (wN u (n_add (uN u) k).2) := by
  refine MI.of (cc := prog_3_method_3_code) (nL := 2) (by decide) rfl (Nat.le_of_ble_eq_true rfl) ?_
  intro p e s m below meth c A Q K ret
  refine z_lvE (lv' := [(0, .ref (a 1)), (1, .int k)]) rfl ?_
  refine z_aload_n (pc := 0) K d_N_add_0 rfl ?_
  refine z_get (pc := 1) K (ref := "DemandTerms$Names") d_N_add_1 hi_N 1 rfl rfl 1 (by decide) k25 rfl rfl ?_
  refine z_bipush (pc := 4) K (v := 16) d_N_add_4 (by decide) ?_
  refine z_icmp_ge (pc := 6) K (tgt := 19) d_N_add_6 (by decide) (fun c6 => ?_) (fun c6 => ?_)
  · refine z_iconst (pc := 19) K (v := (-1)) d_N_add_19 (by decide) ?_
    exact z_reti (pc := 20) ret d_N_add_20 (by simp [n_add, n_addOk, c6]) (by simp [n_add, n_addOk, c6])
  · refine z_iload_n (pc := 9) K d_N_add_9 rfl ?_
    refine z_if_lt (pc := 10) K (tgt := 19) d_N_add_10 (by decide) (fun c10 => ?_) (fun c10 => ?_)
    · refine z_iconst (pc := 19) K (v := (-1)) d_N_add_19 (by decide) ?_
      exact z_reti (pc := 20) ret d_N_add_20 (by simp [n_add, n_addOk, c6, c10]) (by simp [n_add, n_addOk, c6, c10])
    · refine z_iload_n (pc := 13) K d_N_add_13 rfl ?_
      refine z_bipush (pc := 14) K (v := 48) d_N_add_14 (by decide) ?_
      refine z_icmp_le (pc := 16) K (tgt := 21) d_N_add_16 (by decide) (fun c16 => ?_) (fun c16 => ?_)
      · have hlt : (uN u).1 < 16 := ad_lt (N := 16) hu.1 (by decide) c6
        have hok : n_addOk (uN u) k = true := by simp [n_addOk, c6, c10, c16]
        refine z_aload_n (pc := 21) K d_N_add_21 rfl ?_
        refine z_get (pc := 22) K (ref := "DemandTerms$Names") d_N_add_22 hi_N 1 rfl rfl 0 (by decide) k24 rfl rfl ?_
        refine z_aload_n (pc := 25) K d_N_add_25 rfl ?_
        refine z_get (pc := 26) K (ref := "DemandTerms$Names") d_N_add_26 hi_N 1 rfl rfl 1 (by decide) k25 rfl rfl ?_
        refine z_lconst (pc := 29) K (v := 1) d_N_add_29 (by decide) ?_
        refine z_iload_n (pc := 30) K d_N_add_30 rfl ?_
        refine z_lshl (pc := 31) K d_N_add_31 ?_
        refine z_lconst (pc := 32) K (v := 1) d_N_add_32 (by decide) ?_
        refine z_lsub (pc := 33) K d_N_add_33 ?_
        refine z_ldc2 (pc := 34) K (v := 281474976710656) k137 d_N_add_34 ?_
        refine z_lor (pc := 37) K d_N_add_37 ?_
        refine z_last (pc := 38) K (ws' := (CW a cI cJ cC (wN u ((uN u).1, vp_updL (uN u).2 (nI (uN u).1).toNatClampNeg ((s_bit k - 1) ||| 281474976710656))))) d_N_add_38 2 1 rfl rfl (vp_in_nI hlt (by decide)) rfl ?_
        refine z_aload_n (pc := 39) K d_N_add_39 rfl ?_
        refine z_dup (pc := 40) K d_N_add_40 rfl ?_
        refine z_get (pc := 41) K (ref := "DemandTerms$Names") d_N_add_41 hi_N 1 rfl rfl 1 (by decide) k25 rfl rfl ?_
        refine z_iconst (pc := 44) K (v := 1) d_N_add_44 (by decide) ?_
        refine z_iadd (pc := 45) K d_N_add_45 ?_
        refine z_eqi (nI_1 _) ?_
        refine z_put (pc := 46) K (ref := "DemandTerms$Names") (ws' := (CW a cI cJ cC (wN u ((uN u).1 + 1, vp_updL (uN u).2 (nI (uN u).1).toNatClampNeg ((s_bit k - 1) ||| 281474976710656))))) d_N_add_46 hi_N ty_N ty_N_ok nm_N 1 rfl rfl 1 (by decide) k25 rfl rfl rfl rfl rfl (Nat.le_of_ble_eq_true rfl) rfl ?_
        refine z_aload_n (pc := 49) K d_N_add_49 rfl ?_
        refine z_get (pc := 50) K (ref := "DemandTerms$Names") d_N_add_50 hi_N 1 rfl rfl 1 (by decide) k25 rfl rfl ?_
        refine z_iconst (pc := 53) K (v := 1) d_N_add_53 (by decide) ?_
        refine z_isub (pc := 54) K d_N_add_54 ?_
        exact z_reti (pc := 55) ret d_N_add_55 (by rw [n_add, if_pos hok] <;> exact nI_pred _) (by rw [n_add, if_pos hok, n_addS, nI_clamp (show (uN u).1 < 2 ^ 31 by omega)] <;> rfl)
      · refine z_iconst (pc := 19) K (v := (-1)) d_N_add_19 (by decide) ?_
        exact z_reti (pc := 20) ret d_N_add_20 (by simp [n_add, n_addOk, c6, c10, c16]) (by simp [n_add, n_addOk, c6, c10, c16])
end CM
section CM
variable {l : Launch} {D : va_G} {a : Nat → Nat} {cI cJ cC cZ : ClassId}
set_option maxRecDepth 100000 in
set_option maxHeartbeats 4000000 in
theorem c_T_has (u : US) (x : Int32)  : MI l D vwCl (CT cI cJ cC cZ) (CW a cI cJ cC) y_T_has (wA y_T_has prog_6_method_2_code 2 (some .boolean)) { frames := 0, cells := 0, slots := 0, locals := 0 } [.ref (a 3), .int x] u (bI (hasIx (uT u).1 x)) (u) := by
  refine MI.ofZ (cc := prog_6_method_2_code) (nL := 2) (by decide) rfl (Nat.le_of_ble_eq_true rfl) ?_
  intro p e s m below meth c A Q K ret
  refine z_lvE (lv' := [(0, .ref (a 3)), (1, .int x)]) rfl ?_
  refine z_iload_n (pc := 0) K d_T_has_0 rfl ?_
  refine z_if_lt (pc := 1) K (tgt := 16) d_T_has_1 (by decide) (fun c1 => ?_) (fun c1 => ?_)
  · refine z_iconst (pc := 16) K (v := 0) d_T_has_16 (by decide) ?_
    refine z_eqi (y := bI false) rfl ?_
    exact z_reti (pc := 17) ret d_T_has_17 (by simp [hasIx, c1]) rfl
  · refine z_iload_n (pc := 4) K d_T_has_4 rfl ?_
    refine z_aload_n (pc := 5) K d_T_has_5 rfl ?_
    refine z_get (pc := 6) K (ref := "DemandTerms$TermTable") d_T_has_6 hi_T 3 rfl rfl 2 (by decide) k40 rfl rfl ?_
    refine z_icmp_ge (pc := 9) K (tgt := 16) d_T_has_9 (by decide) (fun c9 => ?_) (fun c9 => ?_)
    · refine z_iconst (pc := 16) K (v := 0) d_T_has_16 (by decide) ?_
      refine z_eqi (y := bI false) rfl ?_
      exact z_reti (pc := 17) ret d_T_has_17 (by simp [hasIx, c1, c9]) rfl
    · refine z_iconst (pc := 12) K (v := 1) d_T_has_12 (by decide) ?_
      refine z_goto (pc := 13) K (tgt := 17) d_T_has_13 (by decide) ?_
      refine z_eqi (y := bI true) rfl ?_
      exact z_reti (pc := 17) ret d_T_has_17 (by simp [hasIx, c1, c9]) rfl
set_option maxRecDepth 100000 in
set_option maxHeartbeats 4000000 in
theorem c_T_nameOf (u : US) (x : Int32) (hu : uOk u) : MI l D vwCl (CT cI cJ cC cZ) (CW a cI cJ cC) y_T_nameOf (wA y_T_nameOf prog_6_method_4_code 2 (some .int)) { frames := 1, cells := 0, slots := 0, locals := 21 } [.ref (a 3), .int x] u (t_nm (uT u) x) (u) := by
  refine MI.of (cc := prog_6_method_4_code) (nL := 2) (by decide) rfl (Nat.le_of_ble_eq_true rfl) ?_
  intro p e s m below meth c A Q K ret
  refine z_lvE (lv' := [(0, .ref (a 3)), (1, .int x)]) rfl ?_
  refine z_aload_n (pc := 0) K d_T_nameOf_0 rfl ?_
  refine z_iload_n (pc := 1) K d_T_nameOf_1 rfl ?_
  refine z_cVi (pc := 2) K 3 (c_T_has _ _ ) (cwA K 1 k173 k166 k167 k3 k168 q_T_has ⟨Nat.le_of_ble_eq_true rfl, Nat.le_of_ble_eq_true rfl⟩) d_T_nameOf_2 rfl rfl rfl rfl rfl (Nat.le_of_ble_eq_true rfl) ⟨Nat.le_of_ble_eq_true rfl, Nat.le_of_ble_eq_true rfl⟩ ?_
  refine z_ifb_eq (pc := 5) K (tgt := 17) d_T_nameOf_5 (by decide) (fun c5 => ?_) (fun c5 => ?_)
  · refine z_iconst (pc := 17) K (v := (-1)) d_T_nameOf_17 (by decide) ?_
    exact z_reti (pc := 18) ret d_T_nameOf_18 (by simp [t_nm, c5]) rfl
  · refine z_aload_n (pc := 8) K d_T_nameOf_8 rfl ?_
    refine z_get (pc := 9) K (ref := "DemandTerms$TermTable") d_T_nameOf_9 hi_T 3 rfl rfl 0 (by decide) k38 rfl rfl ?_
    refine z_iload_n (pc := 12) K d_T_nameOf_12 rfl ?_
    refine z_iald (pc := 13) K d_T_nameOf_13 4 0 rfl rfl (hasIx_in c5 hu.2.1 (by decide)) ?_
    refine z_goto (pc := 14) K (tgt := 18) d_T_nameOf_14 (by decide) ?_
    exact z_reti (pc := 18) ret d_T_nameOf_18 (by simp [t_nm, c5]) rfl
set_option maxRecDepth 100000 in
set_option maxHeartbeats 4000000 in
theorem c_T_placesOf (u : US) (x : Int32) (hu : uOk u) : ML l D vwCl (CT cI cJ cC cZ) (CW a cI cJ cC) y_T_placesOf (wA y_T_placesOf prog_6_method_5_code 2 (some .long)) { frames := 1, cells := 0, slots := 0, locals := 21 } [.ref (a 3), .int x] u (t_pl (uT u) x) (u) := by
  refine ML.of (cc := prog_6_method_5_code) (nL := 2) (by decide) rfl (Nat.le_of_ble_eq_true rfl) ?_
  intro p e s m below meth c A Q K ret
  refine z_lvE (lv' := [(0, .ref (a 3)), (1, .int x)]) rfl ?_
  refine z_aload_n (pc := 0) K d_T_placesOf_0 rfl ?_
  refine z_iload_n (pc := 1) K d_T_placesOf_1 rfl ?_
  refine z_cVi (pc := 2) K 3 (c_T_has _ _ ) (cwA K 1 k173 k166 k167 k3 k168 q_T_has ⟨Nat.le_of_ble_eq_true rfl, Nat.le_of_ble_eq_true rfl⟩) d_T_placesOf_2 rfl rfl rfl rfl rfl (Nat.le_of_ble_eq_true rfl) ⟨Nat.le_of_ble_eq_true rfl, Nat.le_of_ble_eq_true rfl⟩ ?_
  refine z_ifb_eq (pc := 5) K (tgt := 17) d_T_placesOf_5 (by decide) (fun c5 => ?_) (fun c5 => ?_)
  · refine z_lconst (pc := 17) K (v := 0) d_T_placesOf_17 (by decide) ?_
    exact z_retl (pc := 18) ret d_T_placesOf_18 (by simp [t_pl, c5]) rfl
  · refine z_aload_n (pc := 8) K d_T_placesOf_8 rfl ?_
    refine z_get (pc := 9) K (ref := "DemandTerms$TermTable") d_T_placesOf_9 hi_T 3 rfl rfl 1 (by decide) k39 rfl rfl ?_
    refine z_iload_n (pc := 12) K d_T_placesOf_12 rfl ?_
    refine z_lald (pc := 13) K d_T_placesOf_13 5 1 rfl rfl (hasIx_in c5 hu.2.1 (by decide)) ?_
    refine z_goto (pc := 14) K (tgt := 18) d_T_placesOf_14 (by decide) ?_
    exact z_retl (pc := 18) ret d_T_placesOf_18 (by simp [t_pl, c5]) rfl
set_option maxRecDepth 100000 in
set_option maxHeartbeats 4000000 in
theorem c_T_add (u : US) (x : Int32) (pl : Int64) (hu : uOk u) : MI l D vwCl (CT cI cJ cC cZ) (CW a cI cJ cC) y_T_add (wA y_T_add prog_6_method_3_code 4 (some .int)) { frames := 0, cells := 0, slots := 0, locals := 0 } [.ref (a 3), .int x, .long pl] u ((t_add (uT u) x pl).1) (wT u (t_add (uT u) x pl).2) := by
  refine MI.of (cc := prog_6_method_3_code) (nL := 4) (by decide) rfl (Nat.le_of_ble_eq_true rfl) ?_
  intro p e s m below meth c A Q K ret
  refine z_lvE (lv' := [(0, .ref (a 3)), (1, .int x), (2, .long pl)]) rfl ?_
  refine z_aload_n (pc := 0) K d_T_add_0 rfl ?_
  refine z_get (pc := 1) K (ref := "DemandTerms$TermTable") d_T_add_1 hi_T 3 rfl rfl 2 (by decide) k40 rfl rfl ?_
  refine z_sipush (pc := 4) K (v := 600) d_T_add_4 (by decide) ?_
  refine z_icmp_lt (pc := 7) K (tgt := 12) d_T_add_7 (by decide) (fun c7 => ?_) (fun c7 => ?_)
  · have hyes : ¬ (600 : Int32) ≤ nI (uT u).1 := i_not_le_of_lt c7
    have hlt : (uT u).1 < 600 := ad_lt (N := 600) hu.2.1 (by decide) hyes
    refine z_aload_n (pc := 12) K d_T_add_12 rfl ?_
    refine z_get (pc := 13) K (ref := "DemandTerms$TermTable") d_T_add_13 hi_T 3 rfl rfl 0 (by decide) k38 rfl rfl ?_
    refine z_aload_n (pc := 16) K d_T_add_16 rfl ?_
    refine z_get (pc := 17) K (ref := "DemandTerms$TermTable") d_T_add_17 hi_T 3 rfl rfl 2 (by decide) k40 rfl rfl ?_
    refine z_iload_n (pc := 20) K d_T_add_20 rfl ?_
    refine z_iast (pc := 21) K (ws' := (CW a cI cJ cC (wT u ((uT u).1, upd (uT u).2.1 (nI (uT u).1).toNatClampNeg x, (uT u).2.2)))) d_T_add_21 4 0 rfl rfl (vp_in_nI hlt (by decide)) rfl ?_
    refine z_aload_n (pc := 22) K d_T_add_22 rfl ?_
    refine z_get (pc := 23) K (ref := "DemandTerms$TermTable") d_T_add_23 hi_T 3 rfl rfl 1 (by decide) k39 rfl rfl ?_
    refine z_aload_n (pc := 26) K d_T_add_26 rfl ?_
    refine z_get (pc := 27) K (ref := "DemandTerms$TermTable") d_T_add_27 hi_T 3 rfl rfl 2 (by decide) k40 rfl rfl ?_
    refine z_lload_n (pc := 30) K d_T_add_30 rfl ?_
    refine z_last (pc := 31) K (ws' := (CW a cI cJ cC (wT u ((uT u).1, upd (uT u).2.1 (nI (uT u).1).toNatClampNeg x, vp_updL (uT u).2.2 (nI (uT u).1).toNatClampNeg pl)))) d_T_add_31 5 1 rfl rfl (vp_in_nI hlt (by decide)) rfl ?_
    refine z_aload_n (pc := 32) K d_T_add_32 rfl ?_
    refine z_dup (pc := 33) K d_T_add_33 rfl ?_
    refine z_get (pc := 34) K (ref := "DemandTerms$TermTable") d_T_add_34 hi_T 3 rfl rfl 2 (by decide) k40 rfl rfl ?_
    refine z_iconst (pc := 37) K (v := 1) d_T_add_37 (by decide) ?_
    refine z_iadd (pc := 38) K d_T_add_38 ?_
    refine z_eqi (nI_1 _) ?_
    refine z_put (pc := 39) K (ref := "DemandTerms$TermTable") (ws' := (CW a cI cJ cC (wT u ((uT u).1 + 1, upd (uT u).2.1 (nI (uT u).1).toNatClampNeg x, vp_updL (uT u).2.2 (nI (uT u).1).toNatClampNeg pl)))) d_T_add_39 hi_T ty_T ty_T_ok nm_T 3 rfl rfl 2 (by decide) k40 rfl rfl rfl rfl rfl (Nat.le_of_ble_eq_true rfl) rfl ?_
    refine z_aload_n (pc := 42) K d_T_add_42 rfl ?_
    refine z_get (pc := 43) K (ref := "DemandTerms$TermTable") d_T_add_43 hi_T 3 rfl rfl 2 (by decide) k40 rfl rfl ?_
    refine z_iconst (pc := 46) K (v := 1) d_T_add_46 (by decide) ?_
    refine z_isub (pc := 47) K d_T_add_47 ?_
    exact z_reti (pc := 48) ret d_T_add_48 (by rw [t_add, if_neg hyes] <;> exact nI_pred _) (by rw [t_add, if_neg hyes, nI_clamp (show (uT u).1 < 2 ^ 31 by omega)] <;> rfl)
  · have hno : (600 : Int32) ≤ nI (uT u).1 := i_le_of_not_lt c7
    refine z_iconst (pc := 10) K (v := (-1)) d_T_add_10 (by decide) ?_
    exact z_reti (pc := 11) ret d_T_add_11 (by rw [t_add, if_pos hno] <;> rfl) (by rw [t_add, if_pos hno] <;> rfl)
end CM
section CM
variable {l : Launch} {D : va_G} {a : Nat → Nat} {cI cJ cC cZ : ClassId}
set_option maxRecDepth 100000 in
set_option maxHeartbeats 4000000 in
theorem c_R_size (u : US)   : MI l D vwCl (CT cI cJ cC cZ) (CW a cI cJ cC) y_R_size (wA y_R_size prog_4_method_2_code 1 (some .int)) { frames := 0, cells := 0, slots := 0, locals := 0 } [.ref (a 6)] u (nI (uR u).1) (u) := by
  refine MI.of (cc := prog_4_method_2_code) (nL := 1) (by decide) rfl (Nat.le_of_ble_eq_true rfl) ?_
  intro p e s m below meth c A Q K ret
  refine z_lvE (lv' := [(0, .ref (a 6))]) rfl ?_
  refine z_aload_n (pc := 0) K d_R_size_0 rfl ?_
  refine z_get (pc := 1) K (ref := "DemandTerms$NeedRows") d_R_size_1 hi_R 6 rfl rfl 5 (by decide) k60 rfl rfl ?_
  exact z_reti (pc := 4) ret d_R_size_4 rfl rfl
set_option maxRecDepth 100000 in
set_option maxHeartbeats 4000000 in
theorem c_R_has (u : US) (x : Int32)  : MI l D vwCl (CT cI cJ cC cZ) (CW a cI cJ cC) y_R_has (wA y_R_has prog_4_method_4_code 2 (some .boolean)) { frames := 0, cells := 0, slots := 0, locals := 0 } [.ref (a 6), .int x] u (bI (hasIx (uR u).1 x)) (u) := by
  refine MI.ofZ (cc := prog_4_method_4_code) (nL := 2) (by decide) rfl (Nat.le_of_ble_eq_true rfl) ?_
  intro p e s m below meth c A Q K ret
  refine z_lvE (lv' := [(0, .ref (a 6)), (1, .int x)]) rfl ?_
  refine z_iload_n (pc := 0) K d_R_has_0 rfl ?_
  refine z_if_lt (pc := 1) K (tgt := 16) d_R_has_1 (by decide) (fun c1 => ?_) (fun c1 => ?_)
  · refine z_iconst (pc := 16) K (v := 0) d_R_has_16 (by decide) ?_
    refine z_eqi (y := bI false) rfl ?_
    exact z_reti (pc := 17) ret d_R_has_17 (by simp [hasIx, c1]) rfl
  · refine z_iload_n (pc := 4) K d_R_has_4 rfl ?_
    refine z_aload_n (pc := 5) K d_R_has_5 rfl ?_
    refine z_get (pc := 6) K (ref := "DemandTerms$NeedRows") d_R_has_6 hi_R 6 rfl rfl 5 (by decide) k60 rfl rfl ?_
    refine z_icmp_ge (pc := 9) K (tgt := 16) d_R_has_9 (by decide) (fun c9 => ?_) (fun c9 => ?_)
    · refine z_iconst (pc := 16) K (v := 0) d_R_has_16 (by decide) ?_
      refine z_eqi (y := bI false) rfl ?_
      exact z_reti (pc := 17) ret d_R_has_17 (by simp [hasIx, c1, c9]) rfl
    · refine z_iconst (pc := 12) K (v := 1) d_R_has_12 (by decide) ?_
      refine z_goto (pc := 13) K (tgt := 17) d_R_has_13 (by decide) ?_
      refine z_eqi (y := bI true) rfl ?_
      exact z_reti (pc := 17) ret d_R_has_17 (by simp [hasIx, c1, c9]) rfl
set_option maxRecDepth 100000 in
set_option maxHeartbeats 4000000 in
theorem c_R_nameOf (u : US) (x : Int32) (hu : uOk u) : MI l D vwCl (CT cI cJ cC cZ) (CW a cI cJ cC) y_R_nameOf (wA y_R_nameOf prog_4_method_8_code 2 (some .int)) { frames := 1, cells := 0, slots := 0, locals := 21 } [.ref (a 6), .int x] u (r_nm (uR u) x) (u) := by
  refine MI.of (cc := prog_4_method_8_code) (nL := 2) (by decide) rfl (Nat.le_of_ble_eq_true rfl) ?_
  intro p e s m below meth c A Q K ret
  refine z_lvE (lv' := [(0, .ref (a 6)), (1, .int x)]) rfl ?_
  refine z_aload_n (pc := 0) K d_R_nameOf_0 rfl ?_
  refine z_iload_n (pc := 1) K d_R_nameOf_1 rfl ?_
  refine z_cVi (pc := 2) K 6 (c_R_has _ _ ) (cwA K 1 k244 k245 k246 k4 k247 q_R_has ⟨Nat.le_of_ble_eq_true rfl, Nat.le_of_ble_eq_true rfl⟩) d_R_nameOf_2 rfl rfl rfl rfl rfl (Nat.le_of_ble_eq_true rfl) ⟨Nat.le_of_ble_eq_true rfl, Nat.le_of_ble_eq_true rfl⟩ ?_
  refine z_ifb_eq (pc := 5) K (tgt := 17) d_R_nameOf_5 (by decide) (fun c5 => ?_) (fun c5 => ?_)
  · refine z_iconst (pc := 17) K (v := (-1)) d_R_nameOf_17 (by decide) ?_
    exact z_reti (pc := 18) ret d_R_nameOf_18 (by simp [r_nm, c5]) rfl
  · refine z_aload_n (pc := 8) K d_R_nameOf_8 rfl ?_
    refine z_get (pc := 9) K (ref := "DemandTerms$NeedRows") d_R_nameOf_9 hi_R 6 rfl rfl 0 (by decide) k55 rfl rfl ?_
    refine z_iload_n (pc := 12) K d_R_nameOf_12 rfl ?_
    refine z_iald (pc := 13) K d_R_nameOf_13 7 0 rfl rfl (hasIx_in c5 hu.2.2.1 (by decide)) ?_
    refine z_goto (pc := 14) K (tgt := 18) d_R_nameOf_14 (by decide) ?_
    exact z_reti (pc := 18) ret d_R_nameOf_18 (by simp [r_nm, c5]) rfl
set_option maxRecDepth 100000 in
set_option maxHeartbeats 4000000 in
theorem c_R_versionOf (u : US) (x : Int32) (hu : uOk u) : MI l D vwCl (CT cI cJ cC cZ) (CW a cI cJ cC) y_R_versionOf (wA y_R_versionOf prog_4_method_9_code 2 (some .int)) { frames := 1, cells := 0, slots := 0, locals := 21 } [.ref (a 6), .int x] u (r_vr (uR u) x) (u) := by
  refine MI.of (cc := prog_4_method_9_code) (nL := 2) (by decide) rfl (Nat.le_of_ble_eq_true rfl) ?_
  intro p e s m below meth c A Q K ret
  refine z_lvE (lv' := [(0, .ref (a 6)), (1, .int x)]) rfl ?_
  refine z_aload_n (pc := 0) K d_R_versionOf_0 rfl ?_
  refine z_iload_n (pc := 1) K d_R_versionOf_1 rfl ?_
  refine z_cVi (pc := 2) K 6 (c_R_has _ _ ) (cwA K 1 k244 k245 k246 k4 k247 q_R_has ⟨Nat.le_of_ble_eq_true rfl, Nat.le_of_ble_eq_true rfl⟩) d_R_versionOf_2 rfl rfl rfl rfl rfl (Nat.le_of_ble_eq_true rfl) ⟨Nat.le_of_ble_eq_true rfl, Nat.le_of_ble_eq_true rfl⟩ ?_
  refine z_ifb_eq (pc := 5) K (tgt := 17) d_R_versionOf_5 (by decide) (fun c5 => ?_) (fun c5 => ?_)
  · refine z_iconst (pc := 17) K (v := (-1)) d_R_versionOf_17 (by decide) ?_
    exact z_reti (pc := 18) ret d_R_versionOf_18 (by simp [r_vr, c5]) rfl
  · refine z_aload_n (pc := 8) K d_R_versionOf_8 rfl ?_
    refine z_get (pc := 9) K (ref := "DemandTerms$NeedRows") d_R_versionOf_9 hi_R 6 rfl rfl 1 (by decide) k56 rfl rfl ?_
    refine z_iload_n (pc := 12) K d_R_versionOf_12 rfl ?_
    refine z_iald (pc := 13) K d_R_versionOf_13 8 0 rfl rfl (hasIx_in c5 hu.2.2.1 (by decide)) ?_
    refine z_goto (pc := 14) K (tgt := 18) d_R_versionOf_14 (by decide) ?_
    exact z_reti (pc := 18) ret d_R_versionOf_18 (by simp [r_vr, c5]) rfl
set_option maxRecDepth 100000 in
set_option maxHeartbeats 4000000 in
theorem c_R_otherOf (u : US) (x : Int32) (hu : uOk u) : MI l D vwCl (CT cI cJ cC cZ) (CW a cI cJ cC) y_R_otherOf (wA y_R_otherOf prog_4_method_10_code 2 (some .int)) { frames := 1, cells := 0, slots := 0, locals := 21 } [.ref (a 6), .int x] u (r_ot (uR u) x) (u) := by
  refine MI.of (cc := prog_4_method_10_code) (nL := 2) (by decide) rfl (Nat.le_of_ble_eq_true rfl) ?_
  intro p e s m below meth c A Q K ret
  refine z_lvE (lv' := [(0, .ref (a 6)), (1, .int x)]) rfl ?_
  refine z_aload_n (pc := 0) K d_R_otherOf_0 rfl ?_
  refine z_iload_n (pc := 1) K d_R_otherOf_1 rfl ?_
  refine z_cVi (pc := 2) K 6 (c_R_has _ _ ) (cwA K 1 k244 k245 k246 k4 k247 q_R_has ⟨Nat.le_of_ble_eq_true rfl, Nat.le_of_ble_eq_true rfl⟩) d_R_otherOf_2 rfl rfl rfl rfl rfl (Nat.le_of_ble_eq_true rfl) ⟨Nat.le_of_ble_eq_true rfl, Nat.le_of_ble_eq_true rfl⟩ ?_
  refine z_ifb_eq (pc := 5) K (tgt := 17) d_R_otherOf_5 (by decide) (fun c5 => ?_) (fun c5 => ?_)
  · refine z_iconst (pc := 17) K (v := (-1)) d_R_otherOf_17 (by decide) ?_
    exact z_reti (pc := 18) ret d_R_otherOf_18 (by simp [r_ot, c5]) rfl
  · refine z_aload_n (pc := 8) K d_R_otherOf_8 rfl ?_
    refine z_get (pc := 9) K (ref := "DemandTerms$NeedRows") d_R_otherOf_9 hi_R 6 rfl rfl 2 (by decide) k57 rfl rfl ?_
    refine z_iload_n (pc := 12) K d_R_otherOf_12 rfl ?_
    refine z_iald (pc := 13) K d_R_otherOf_13 9 0 rfl rfl (hasIx_in c5 hu.2.2.1 (by decide)) ?_
    refine z_goto (pc := 14) K (tgt := 18) d_R_otherOf_14 (by decide) ?_
    exact z_reti (pc := 18) ret d_R_otherOf_18 (by simp [r_ot, c5]) rfl
set_option maxRecDepth 100000 in
set_option maxHeartbeats 4000000 in
theorem c_R_neededOf (u : US) (x : Int32) (hu : uOk u) : ML l D vwCl (CT cI cJ cC cZ) (CW a cI cJ cC) y_R_neededOf (wA y_R_neededOf prog_4_method_11_code 2 (some .long)) { frames := 1, cells := 0, slots := 0, locals := 21 } [.ref (a 6), .int x] u (r_nd (uR u) x) (u) := by
  refine ML.of (cc := prog_4_method_11_code) (nL := 2) (by decide) rfl (Nat.le_of_ble_eq_true rfl) ?_
  intro p e s m below meth c A Q K ret
  refine z_lvE (lv' := [(0, .ref (a 6)), (1, .int x)]) rfl ?_
  refine z_aload_n (pc := 0) K d_R_neededOf_0 rfl ?_
  refine z_iload_n (pc := 1) K d_R_neededOf_1 rfl ?_
  refine z_cVi (pc := 2) K 6 (c_R_has _ _ ) (cwA K 1 k244 k245 k246 k4 k247 q_R_has ⟨Nat.le_of_ble_eq_true rfl, Nat.le_of_ble_eq_true rfl⟩) d_R_neededOf_2 rfl rfl rfl rfl rfl (Nat.le_of_ble_eq_true rfl) ⟨Nat.le_of_ble_eq_true rfl, Nat.le_of_ble_eq_true rfl⟩ ?_
  refine z_ifb_eq (pc := 5) K (tgt := 17) d_R_neededOf_5 (by decide) (fun c5 => ?_) (fun c5 => ?_)
  · refine z_lconst (pc := 17) K (v := 0) d_R_neededOf_17 (by decide) ?_
    exact z_retl (pc := 18) ret d_R_neededOf_18 (by simp [r_nd, c5]) rfl
  · refine z_aload_n (pc := 8) K d_R_neededOf_8 rfl ?_
    refine z_get (pc := 9) K (ref := "DemandTerms$NeedRows") d_R_neededOf_9 hi_R 6 rfl rfl 3 (by decide) k58 rfl rfl ?_
    refine z_iload_n (pc := 12) K d_R_neededOf_12 rfl ?_
    refine z_lald (pc := 13) K d_R_neededOf_13 10 1 rfl rfl (hasIx_in c5 hu.2.2.1 (by decide)) ?_
    refine z_goto (pc := 14) K (tgt := 18) d_R_neededOf_14 (by decide) ?_
    exact z_retl (pc := 18) ret d_R_neededOf_18 (by simp [r_nd, c5]) rfl
set_option maxRecDepth 100000 in
set_option maxHeartbeats 4000000 in
theorem c_R_add (u : US) (x : Int32) (v : Int32) (o : Int32) (d : Int64) (k : Int32) (hu : uOk u) : MI l D vwCl (CT cI cJ cC cZ) (CW a cI cJ cC) y_R_add (wA y_R_add prog_4_method_3_code 7 (some .boolean)) { frames := 0, cells := 0, slots := 0, locals := 0 } [.ref (a 6), .int x, .int v, .int o, .long d, .int k] u (bI ((r_add (uR u) x v o d k).1)) (wR u (r_add (uR u) x v o d k).2) := by
  refine MI.ofZ (cc := prog_4_method_3_code) (nL := 7) (by decide) rfl (Nat.le_of_ble_eq_true rfl) ?_
  intro p e s m below meth c A Q K ret
  refine z_lvE (lv' := [(0, .ref (a 6)), (1, .int x), (2, .int v), (3, .int o), (4, .long d), (6, .int k)]) rfl ?_
  refine z_aload_n (pc := 0) K d_R_add_0 rfl ?_
  refine z_get (pc := 1) K (ref := "DemandTerms$NeedRows") d_R_add_1 hi_R 6 rfl rfl 5 (by decide) k60 rfl rfl ?_
  refine z_sipush (pc := 4) K (v := 400) d_R_add_4 (by decide) ?_
  refine z_icmp_lt (pc := 7) K (tgt := 12) d_R_add_7 (by decide) (fun c7 => ?_) (fun c7 => ?_)
  · have hyes : ¬ (400 : Int32) ≤ nI (uR u).1 := i_not_le_of_lt c7
    have hlt : (uR u).1 < 400 := ad_lt (N := 400) hu.2.2.1 (by decide) hyes
    refine z_aload_n (pc := 12) K d_R_add_12 rfl ?_
    refine z_get (pc := 13) K (ref := "DemandTerms$NeedRows") d_R_add_13 hi_R 6 rfl rfl 0 (by decide) k55 rfl rfl ?_
    refine z_aload_n (pc := 16) K d_R_add_16 rfl ?_
    refine z_get (pc := 17) K (ref := "DemandTerms$NeedRows") d_R_add_17 hi_R 6 rfl rfl 5 (by decide) k60 rfl rfl ?_
    refine z_iload_n (pc := 20) K d_R_add_20 rfl ?_
    refine z_iast (pc := 21) K (ws' := (CW a cI cJ cC (wR u ((uR u).1, upd (rN (uR u)) (nI (uR u).1).toNatClampNeg x, rV (uR u), rO (uR u), rD (uR u), rK (uR u))))) d_R_add_21 7 0 rfl rfl (vp_in_nI hlt (by decide)) rfl ?_
    refine z_aload_n (pc := 22) K d_R_add_22 rfl ?_
    refine z_get (pc := 23) K (ref := "DemandTerms$NeedRows") d_R_add_23 hi_R 6 rfl rfl 1 (by decide) k56 rfl rfl ?_
    refine z_aload_n (pc := 26) K d_R_add_26 rfl ?_
    refine z_get (pc := 27) K (ref := "DemandTerms$NeedRows") d_R_add_27 hi_R 6 rfl rfl 5 (by decide) k60 rfl rfl ?_
    refine z_iload_n (pc := 30) K d_R_add_30 rfl ?_
    refine z_iast (pc := 31) K (ws' := (CW a cI cJ cC (wR u ((uR u).1, upd (rN (uR u)) (nI (uR u).1).toNatClampNeg x, upd (rV (uR u)) (nI (uR u).1).toNatClampNeg v, rO (uR u), rD (uR u), rK (uR u))))) d_R_add_31 8 0 rfl rfl (vp_in_nI hlt (by decide)) rfl ?_
    refine z_aload_n (pc := 32) K d_R_add_32 rfl ?_
    refine z_get (pc := 33) K (ref := "DemandTerms$NeedRows") d_R_add_33 hi_R 6 rfl rfl 2 (by decide) k57 rfl rfl ?_
    refine z_aload_n (pc := 36) K d_R_add_36 rfl ?_
    refine z_get (pc := 37) K (ref := "DemandTerms$NeedRows") d_R_add_37 hi_R 6 rfl rfl 5 (by decide) k60 rfl rfl ?_
    refine z_iload_n (pc := 40) K d_R_add_40 rfl ?_
    refine z_iast (pc := 41) K (ws' := (CW a cI cJ cC (wR u ((uR u).1, upd (rN (uR u)) (nI (uR u).1).toNatClampNeg x, upd (rV (uR u)) (nI (uR u).1).toNatClampNeg v, upd (rO (uR u)) (nI (uR u).1).toNatClampNeg o, rD (uR u), rK (uR u))))) d_R_add_41 9 0 rfl rfl (vp_in_nI hlt (by decide)) rfl ?_
    refine z_aload_n (pc := 42) K d_R_add_42 rfl ?_
    refine z_get (pc := 43) K (ref := "DemandTerms$NeedRows") d_R_add_43 hi_R 6 rfl rfl 3 (by decide) k58 rfl rfl ?_
    refine z_aload_n (pc := 46) K d_R_add_46 rfl ?_
    refine z_get (pc := 47) K (ref := "DemandTerms$NeedRows") d_R_add_47 hi_R 6 rfl rfl 5 (by decide) k60 rfl rfl ?_
    refine z_lload (pc := 50) K d_R_add_50 rfl ?_
    refine z_last (pc := 52) K (ws' := (CW a cI cJ cC (wR u ((uR u).1, upd (rN (uR u)) (nI (uR u).1).toNatClampNeg x, upd (rV (uR u)) (nI (uR u).1).toNatClampNeg v, upd (rO (uR u)) (nI (uR u).1).toNatClampNeg o, vp_updL (rD (uR u)) (nI (uR u).1).toNatClampNeg d, rK (uR u))))) d_R_add_52 10 1 rfl rfl (vp_in_nI hlt (by decide)) rfl ?_
    refine z_aload_n (pc := 53) K d_R_add_53 rfl ?_
    refine z_get (pc := 54) K (ref := "DemandTerms$NeedRows") d_R_add_54 hi_R 6 rfl rfl 4 (by decide) k59 rfl rfl ?_
    refine z_aload_n (pc := 57) K d_R_add_57 rfl ?_
    refine z_get (pc := 58) K (ref := "DemandTerms$NeedRows") d_R_add_58 hi_R 6 rfl rfl 5 (by decide) k60 rfl rfl ?_
    refine z_iload (pc := 61) K d_R_add_61 rfl ?_
    refine z_iast (pc := 63) K (ws' := (CW a cI cJ cC (wR u ((uR u).1, upd (rN (uR u)) (nI (uR u).1).toNatClampNeg x, upd (rV (uR u)) (nI (uR u).1).toNatClampNeg v, upd (rO (uR u)) (nI (uR u).1).toNatClampNeg o, vp_updL (rD (uR u)) (nI (uR u).1).toNatClampNeg d, upd (rK (uR u)) (nI (uR u).1).toNatClampNeg k)))) d_R_add_63 11 0 rfl rfl (vp_in_nI hlt (by decide)) rfl ?_
    refine z_aload_n (pc := 64) K d_R_add_64 rfl ?_
    refine z_dup (pc := 65) K d_R_add_65 rfl ?_
    refine z_get (pc := 66) K (ref := "DemandTerms$NeedRows") d_R_add_66 hi_R 6 rfl rfl 5 (by decide) k60 rfl rfl ?_
    refine z_iconst (pc := 69) K (v := 1) d_R_add_69 (by decide) ?_
    refine z_iadd (pc := 70) K d_R_add_70 ?_
    refine z_eqi (nI_1 _) ?_
    refine z_put (pc := 71) K (ref := "DemandTerms$NeedRows") (ws' := (CW a cI cJ cC (wR u ((uR u).1 + 1, upd (rN (uR u)) (nI (uR u).1).toNatClampNeg x, upd (rV (uR u)) (nI (uR u).1).toNatClampNeg v, upd (rO (uR u)) (nI (uR u).1).toNatClampNeg o, vp_updL (rD (uR u)) (nI (uR u).1).toNatClampNeg d, upd (rK (uR u)) (nI (uR u).1).toNatClampNeg k)))) d_R_add_71 hi_R ty_R ty_R_ok nm_R 6 rfl rfl 5 (by decide) k60 rfl rfl rfl rfl rfl (Nat.le_of_ble_eq_true rfl) rfl ?_
    refine z_iconst (pc := 74) K (v := 1) d_R_add_74 (by decide) ?_
    refine z_eqi (y := bI true) rfl ?_
    exact z_reti (pc := 75) ret d_R_add_75 (by rw [r_add, if_neg hyes] <;> rfl) (by rw [r_add, if_neg hyes, nI_clamp (show (uR u).1 < 2 ^ 31 by omega)] <;> rfl)
  · have hno : (400 : Int32) ≤ nI (uR u).1 := i_le_of_not_lt c7
    refine z_iconst (pc := 10) K (v := 0) d_R_add_10 (by decide) ?_
    refine z_eqi (y := bI false) rfl ?_
    exact z_reti (pc := 11) ret d_R_add_11 (by rw [r_add, if_pos hno] <;> rfl) (by rw [r_add, if_pos hno] <;> rfl)
set_option maxRecDepth 100000 in
set_option maxHeartbeats 4000000 in
theorem c_R_isOf (u : US) (i : Int32) (x : Int32) (v : Int32) (hu : uOk u) : MI l D vwCl (CT cI cJ cC cZ) (CW a cI cJ cC) y_R_isOf (wA y_R_isOf prog_4_method_5_code 4 (some .boolean)) { frames := 1, cells := 0, slots := 0, locals := 21 } [.ref (a 6), .int i, .int x, .int v] u (bI (r_isOf (uR u) i x v)) (u) := by
  refine MI.ofZ (cc := prog_4_method_5_code) (nL := 4) (by decide) rfl (Nat.le_of_ble_eq_true rfl) ?_
  intro p e s m below meth c A Q K ret
  refine z_lvE (lv' := [(0, .ref (a 6)), (1, .int i), (2, .int x), (3, .int v)]) rfl ?_
  refine z_aload_n (pc := 0) K d_R_isOf_0 rfl ?_
  refine z_iload_n (pc := 1) K d_R_isOf_1 rfl ?_
  refine z_cVi (pc := 2) K 6 (c_R_has _ _ ) (cwA K 1 k244 k245 k246 k4 k247 q_R_has ⟨Nat.le_of_ble_eq_true rfl, Nat.le_of_ble_eq_true rfl⟩) d_R_isOf_2 rfl rfl rfl rfl rfl (Nat.le_of_ble_eq_true rfl) ⟨Nat.le_of_ble_eq_true rfl, Nat.le_of_ble_eq_true rfl⟩ ?_
  refine z_ifb_eq (pc := 5) K (tgt := 32) d_R_isOf_5 (by decide) (fun c5 => ?_) (fun c5 => ?_)
  · refine z_iconst (pc := 32) K (v := 0) d_R_isOf_32 (by decide) ?_
    refine z_eqi (y := bI false) rfl ?_
    exact z_reti (pc := 33) ret d_R_isOf_33 (by simp [r_isOf, c5]) rfl
  · refine z_aload_n (pc := 8) K d_R_isOf_8 rfl ?_
    refine z_get (pc := 9) K (ref := "DemandTerms$NeedRows") d_R_isOf_9 hi_R 6 rfl rfl 0 (by decide) k55 rfl rfl ?_
    refine z_iload_n (pc := 12) K d_R_isOf_12 rfl ?_
    refine z_iald (pc := 13) K d_R_isOf_13 7 0 rfl rfl (hasIx_in c5 hu.2.2.1 (by decide)) ?_
    refine z_iload_n (pc := 14) K d_R_isOf_14 rfl ?_
    refine z_icmp_ne (pc := 15) K (tgt := 32) d_R_isOf_15 (by decide) (fun c15 => ?_) (fun c15 => ?_)
    · refine z_iconst (pc := 32) K (v := 0) d_R_isOf_32 (by decide) ?_
      refine z_eqi (y := bI false) rfl ?_
      exact z_reti (pc := 33) ret d_R_isOf_33 (by simp [r_isOf, c5, c15]) rfl
    · refine z_aload_n (pc := 18) K d_R_isOf_18 rfl ?_
      refine z_get (pc := 19) K (ref := "DemandTerms$NeedRows") d_R_isOf_19 hi_R 6 rfl rfl 1 (by decide) k56 rfl rfl ?_
      refine z_iload_n (pc := 22) K d_R_isOf_22 rfl ?_
      refine z_iald (pc := 23) K d_R_isOf_23 8 0 rfl rfl (hasIx_in c5 hu.2.2.1 (by decide)) ?_
      refine z_iload_n (pc := 24) K d_R_isOf_24 rfl ?_
      refine z_icmp_ne (pc := 25) K (tgt := 32) d_R_isOf_25 (by decide) (fun c25 => ?_) (fun c25 => ?_)
      · refine z_iconst (pc := 32) K (v := 0) d_R_isOf_32 (by decide) ?_
        refine z_eqi (y := bI false) rfl ?_
        exact z_reti (pc := 33) ret d_R_isOf_33 (by simp [r_isOf, c5, c15, c25]) rfl
      · refine z_iconst (pc := 28) K (v := 1) d_R_isOf_28 (by decide) ?_
        refine z_goto (pc := 29) K (tgt := 33) d_R_isOf_29 (by decide) ?_
        refine z_eqi (y := bI true) rfl ?_
        exact z_reti (pc := 33) ret d_R_isOf_33 (by simp [r_isOf, c5, c15, c25]) rfl
set_option maxRecDepth 100000 in
set_option maxHeartbeats 4000000 in
theorem c_R_alike (u : US) (i : Int32) (j : Int32) (hu : uOk u) : MI l D vwCl (CT cI cJ cC cZ) (CW a cI cJ cC) y_R_alike (wA y_R_alike prog_4_method_6_code 3 (some .boolean)) { frames := 1, cells := 0, slots := 0, locals := 21 } [.ref (a 6), .int i, .int j] u (bI (r_alike (uR u) i j)) (u) := by
  refine MI.ofZ (cc := prog_4_method_6_code) (nL := 3) (by decide) rfl (Nat.le_of_ble_eq_true rfl) ?_
  intro p e s m below meth c A Q K ret
  refine z_lvE (lv' := [(0, .ref (a 6)), (1, .int i), (2, .int j)]) rfl ?_
  refine z_aload_n (pc := 0) K d_R_alike_0 rfl ?_
  refine z_iload_n (pc := 1) K d_R_alike_1 rfl ?_
  refine z_cVi (pc := 2) K 6 (c_R_has _ _ ) (cwA K 1 k244 k245 k246 k4 k247 q_R_has ⟨Nat.le_of_ble_eq_true rfl, Nat.le_of_ble_eq_true rfl⟩) d_R_alike_2 rfl rfl rfl rfl rfl (Nat.le_of_ble_eq_true rfl) ⟨Nat.le_of_ble_eq_true rfl, Nat.le_of_ble_eq_true rfl⟩ ?_
  refine z_ifb_eq (pc := 5) K (tgt := 81) d_R_alike_5 (by decide) (fun c5 => ?_) (fun c5 => ?_)
  · refine z_iconst (pc := 81) K (v := 0) d_R_alike_81 (by decide) ?_
    refine z_eqi (y := bI false) rfl ?_
    exact z_reti (pc := 82) ret d_R_alike_82 (by simp [r_alike, c5]) rfl
  · refine z_aload_n (pc := 8) K d_R_alike_8 rfl ?_
    refine z_iload_n (pc := 9) K d_R_alike_9 rfl ?_
    refine z_cVi (pc := 10) K 6 (c_R_has _ _ ) (cwA K 1 k244 k245 k246 k4 k247 q_R_has ⟨Nat.le_of_ble_eq_true rfl, Nat.le_of_ble_eq_true rfl⟩) d_R_alike_10 rfl rfl rfl rfl rfl (Nat.le_of_ble_eq_true rfl) ⟨Nat.le_of_ble_eq_true rfl, Nat.le_of_ble_eq_true rfl⟩ ?_
    refine z_ifb_eq (pc := 13) K (tgt := 81) d_R_alike_13 (by decide) (fun c13 => ?_) (fun c13 => ?_)
    · refine z_iconst (pc := 81) K (v := 0) d_R_alike_81 (by decide) ?_
      refine z_eqi (y := bI false) rfl ?_
      exact z_reti (pc := 82) ret d_R_alike_82 (by simp [r_alike, c5, c13]) rfl
    · refine z_aload_n (pc := 16) K d_R_alike_16 rfl ?_
      refine z_get (pc := 17) K (ref := "DemandTerms$NeedRows") d_R_alike_17 hi_R 6 rfl rfl 0 (by decide) k55 rfl rfl ?_
      refine z_iload_n (pc := 20) K d_R_alike_20 rfl ?_
      refine z_iald (pc := 21) K d_R_alike_21 7 0 rfl rfl (hasIx_in c5 hu.2.2.1 (by decide)) ?_
      refine z_aload_n (pc := 22) K d_R_alike_22 rfl ?_
      refine z_get (pc := 23) K (ref := "DemandTerms$NeedRows") d_R_alike_23 hi_R 6 rfl rfl 0 (by decide) k55 rfl rfl ?_
      refine z_iload_n (pc := 26) K d_R_alike_26 rfl ?_
      refine z_iald (pc := 27) K d_R_alike_27 7 0 rfl rfl (hasIx_in c13 hu.2.2.1 (by decide)) ?_
      refine z_icmp_ne (pc := 28) K (tgt := 81) d_R_alike_28 (by decide) (fun c28 => ?_) (fun c28 => ?_)
      · refine z_iconst (pc := 81) K (v := 0) d_R_alike_81 (by decide) ?_
        refine z_eqi (y := bI false) rfl ?_
        exact z_reti (pc := 82) ret d_R_alike_82 (by simp [r_alike, c5, c13, c28]) rfl
      · refine z_aload_n (pc := 31) K d_R_alike_31 rfl ?_
        refine z_get (pc := 32) K (ref := "DemandTerms$NeedRows") d_R_alike_32 hi_R 6 rfl rfl 2 (by decide) k57 rfl rfl ?_
        refine z_iload_n (pc := 35) K d_R_alike_35 rfl ?_
        refine z_iald (pc := 36) K d_R_alike_36 9 0 rfl rfl (hasIx_in c5 hu.2.2.1 (by decide)) ?_
        refine z_aload_n (pc := 37) K d_R_alike_37 rfl ?_
        refine z_get (pc := 38) K (ref := "DemandTerms$NeedRows") d_R_alike_38 hi_R 6 rfl rfl 2 (by decide) k57 rfl rfl ?_
        refine z_iload_n (pc := 41) K d_R_alike_41 rfl ?_
        refine z_iald (pc := 42) K d_R_alike_42 9 0 rfl rfl (hasIx_in c13 hu.2.2.1 (by decide)) ?_
        refine z_icmp_ne (pc := 43) K (tgt := 81) d_R_alike_43 (by decide) (fun c43 => ?_) (fun c43 => ?_)
        · refine z_iconst (pc := 81) K (v := 0) d_R_alike_81 (by decide) ?_
          refine z_eqi (y := bI false) rfl ?_
          exact z_reti (pc := 82) ret d_R_alike_82 (by simp [r_alike, c5, c13, c28, c43]) rfl
        · refine z_aload_n (pc := 46) K d_R_alike_46 rfl ?_
          refine z_get (pc := 47) K (ref := "DemandTerms$NeedRows") d_R_alike_47 hi_R 6 rfl rfl 3 (by decide) k58 rfl rfl ?_
          refine z_iload_n (pc := 50) K d_R_alike_50 rfl ?_
          refine z_lald (pc := 51) K d_R_alike_51 10 1 rfl rfl (hasIx_in c5 hu.2.2.1 (by decide)) ?_
          refine z_aload_n (pc := 52) K d_R_alike_52 rfl ?_
          refine z_get (pc := 53) K (ref := "DemandTerms$NeedRows") d_R_alike_53 hi_R 6 rfl rfl 3 (by decide) k58 rfl rfl ?_
          refine z_iload_n (pc := 56) K d_R_alike_56 rfl ?_
          refine z_lald (pc := 57) K d_R_alike_57 10 1 rfl rfl (hasIx_in c13 hu.2.2.1 (by decide)) ?_
          refine z_lcmp (pc := 58) K d_R_alike_58 ?_
          refine z_ifl_ne (pc := 59) K (tgt := 81) d_R_alike_59 (by decide) (fun c59 => ?_) (fun c59 => ?_)
          · refine z_iconst (pc := 81) K (v := 0) d_R_alike_81 (by decide) ?_
            refine z_eqi (y := bI false) rfl ?_
            exact z_reti (pc := 82) ret d_R_alike_82 (by simp [r_alike, c5, c13, c28, c43, c59]) rfl
          · refine z_aload_n (pc := 62) K d_R_alike_62 rfl ?_
            refine z_get (pc := 63) K (ref := "DemandTerms$NeedRows") d_R_alike_63 hi_R 6 rfl rfl 4 (by decide) k59 rfl rfl ?_
            refine z_iload_n (pc := 66) K d_R_alike_66 rfl ?_
            refine z_iald (pc := 67) K d_R_alike_67 11 0 rfl rfl (hasIx_in c5 hu.2.2.1 (by decide)) ?_
            refine z_aload_n (pc := 68) K d_R_alike_68 rfl ?_
            refine z_get (pc := 69) K (ref := "DemandTerms$NeedRows") d_R_alike_69 hi_R 6 rfl rfl 4 (by decide) k59 rfl rfl ?_
            refine z_iload_n (pc := 72) K d_R_alike_72 rfl ?_
            refine z_iald (pc := 73) K d_R_alike_73 11 0 rfl rfl (hasIx_in c13 hu.2.2.1 (by decide)) ?_
            refine z_icmp_ne (pc := 74) K (tgt := 81) d_R_alike_74 (by decide) (fun c74 => ?_) (fun c74 => ?_)
            · refine z_iconst (pc := 81) K (v := 0) d_R_alike_81 (by decide) ?_
              refine z_eqi (y := bI false) rfl ?_
              exact z_reti (pc := 82) ret d_R_alike_82 (by simp [r_alike, c5, c13, c28, c43, c59, c74]) rfl
            · refine z_iconst (pc := 77) K (v := 1) d_R_alike_77 (by decide) ?_
              refine z_goto (pc := 78) K (tgt := 82) d_R_alike_78 (by decide) ?_
              refine z_eqi (y := bI true) rfl ?_
              exact z_reti (pc := 82) ret d_R_alike_82 (by simp [r_alike, c5, c13, c28, c43, c59, c74]) rfl
set_option maxRecDepth 100000 in
set_option maxHeartbeats 4000000 in
theorem c_R_versionsLike (u : US) (j : Int32) (hu : uOk u) : ML l D vwCl (CT cI cJ cC cZ) (CW a cI cJ cC) y_R_versionsLike (wA y_R_versionsLike prog_4_method_7_code 5 (some .long)) { frames := 2, cells := 0, slots := 0, locals := 43 } [.ref (a 6), .int j] u (r_vl (uR u) j) (u) := by
  refine ML.of (cc := prog_4_method_7_code) (nL := 5) (by decide) rfl (Nat.le_of_ble_eq_true rfl) ?_
  intro p e s m below meth c A Q K ret
  refine z_lvE (lv' := [(0, .ref (a 6)), (1, .int j)]) rfl ?_
  have hb := hu.2.2.1
  refine z_lconst (pc := 0) K (v := 0) d_R_versionsLike_0 (by decide) ?_
  refine z_lstore_n (pc := 1) K d_R_versionsLike_1 rfl (by decide) rfl ?_
  refine z_iconst (pc := 2) K (v := 0) d_R_versionsLike_2 (by decide) ?_
  refine z_istore (pc := 3) K d_R_versionsLike_3 (by decide) rfl ?_
  have LP : ∀ (n i : Nat) (f : Int64), i + n = (uR u).1 → f = r_vlk (uR u) j i → zW p l e { frames := 2, cells := 0, slots := 0, locals := 43 } s m [.ref (a 6), .int j].toArray below meth c D vwCl A 5 0 0 Q (CW a cI cJ cC u) 5 [(4, .int (nI i)), (2, .long f), (0, .ref (a 6)), (1, .int j)] [] := by
    intro n
    induction n with
    | zero =>
      intro i f hi hf
      refine z_iload (pc := 5) K d_R_versionsLike_5 rfl ?_
      refine z_aload_n (pc := 7) K d_R_versionsLike_7 rfl ?_
      refine z_get (pc := 8) K (ref := "DemandTerms$NeedRows") d_R_versionsLike_8 hi_R 6 rfl rfl 5 (by decide) k60 rfl rfl ?_
      refine z_icmp_ge (pc := 11) K (tgt := 42) d_R_versionsLike_11 (by decide) (fun c11 => ?_) (fun c11 => ?_)
      · refine z_lload_n (pc := 42) K d_R_versionsLike_42 rfl ?_
        exact z_retl (pc := 43) ret d_R_versionsLike_43 (by rw [hf, r_vl, show i = (uR u).1 by omega]) rfl
      · exact absurd (nI_le (a := (uR u).1) (b := i) (by omega) (by omega)) c11
    | succ n ih =>
      intro i f hi hf
      refine z_iload (pc := 5) K d_R_versionsLike_5 rfl ?_
      refine z_aload_n (pc := 7) K d_R_versionsLike_7 rfl ?_
      refine z_get (pc := 8) K (ref := "DemandTerms$NeedRows") d_R_versionsLike_8 hi_R 6 rfl rfl 5 (by decide) k60 rfl rfl ?_
      refine z_icmp_ge (pc := 11) K (tgt := 42) d_R_versionsLike_11 (by decide) (fun c11 => ?_) (fun c11 => ?_)
      · exact absurd c11 (nI_ge (a := i) (b := (uR u).1) (by omega) (by omega))
      · refine z_aload_n (pc := 14) K d_R_versionsLike_14 rfl ?_
        refine z_iload (pc := 15) K d_R_versionsLike_15 rfl ?_
        refine z_iload_n (pc := 17) K d_R_versionsLike_17 rfl ?_
        refine z_cVi (pc := 18) K 6 (c_R_alike _ _ _ hu) (cwA K 2 k281 k265 k266 k4 k267 q_R_alike ⟨Nat.le_of_ble_eq_true rfl, Nat.le_of_ble_eq_true rfl⟩) d_R_versionsLike_18 rfl rfl rfl rfl rfl (Nat.le_of_ble_eq_true rfl) ⟨Nat.le_of_ble_eq_true rfl, Nat.le_of_ble_eq_true rfl⟩ ?_
        refine z_ifb_eq (pc := 21) K (tgt := 36) d_R_versionsLike_21 (by decide) (fun c21 => ?_) (fun c21 => ?_)
        · refine z_iinc (pc := 36) K (v := nI (i + 1)) d_R_versionsLike_36 0 rfl (inc1 i) (by decide) rfl ?_
          refine z_goto (pc := 39) K (tgt := 5) d_R_versionsLike_39 (by decide) ?_
          refine z_lv [0, 1, 2, 3] rfl ?_
          exact ih (i + 1) _ (by omega) (by simp [r_vlk, c21, hf, s_bit, nI_clamp (show i < 2 ^ 31 by omega)])
        · refine z_lload_n (pc := 24) K d_R_versionsLike_24 rfl ?_
          refine z_lconst (pc := 25) K (v := 1) d_R_versionsLike_25 (by decide) ?_
          refine z_aload_n (pc := 26) K d_R_versionsLike_26 rfl ?_
          refine z_get (pc := 27) K (ref := "DemandTerms$NeedRows") d_R_versionsLike_27 hi_R 6 rfl rfl 1 (by decide) k56 rfl rfl ?_
          refine z_iload (pc := 30) K d_R_versionsLike_30 rfl ?_
          refine z_iald (pc := 32) K d_R_versionsLike_32 8 0 rfl rfl (vp_in_nI (by omega) (by decide)) ?_
          refine z_lshl (pc := 33) K d_R_versionsLike_33 ?_
          refine z_lor (pc := 34) K d_R_versionsLike_34 ?_
          refine z_lstore_n (pc := 35) K d_R_versionsLike_35 rfl (by decide) rfl ?_
          refine z_iinc (pc := 36) K (v := nI (i + 1)) d_R_versionsLike_36 1 rfl (inc1 i) (by decide) rfl ?_
          refine z_goto (pc := 39) K (tgt := 5) d_R_versionsLike_39 (by decide) ?_
          refine z_lv [0, 1, 2, 3] rfl ?_
          exact ih (i + 1) _ (by omega) (by simp [r_vlk, c21, hf, s_bit, nI_clamp (show i < 2 ^ 31 by omega)])
  refine z_lv [0, 1, 2, 3] rfl ?_
  exact LP (uR u).1 0 0 (by omega) rfl
end CM
section CM
variable {l : Launch} {D : va_G} {a : Nat → Nat} {cI cJ cC cZ : ClassId}
set_option maxRecDepth 100000 in
set_option maxHeartbeats 4000000 in
theorem c_C_size (u : US)   : MI l D vwCl (CT cI cJ cC cZ) (CW a cI cJ cC) y_C_size (wA y_C_size prog_2_method_2_code 1 (some .int)) { frames := 0, cells := 0, slots := 0, locals := 0 } [.ref (a 12)] u (nI (uC u).1) (u) := by
  refine MI.of (cc := prog_2_method_2_code) (nL := 1) (by decide) rfl (Nat.le_of_ble_eq_true rfl) ?_
  intro p e s m below meth c A Q K ret
  refine z_lvE (lv' := [(0, .ref (a 12))]) rfl ?_
  refine z_aload_n (pc := 0) K d_C_size_0 rfl ?_
  refine z_get (pc := 1) K (ref := "DemandTerms$Clashes") d_C_size_1 hi_C 12 rfl rfl 4 (by decide) k84 rfl rfl ?_
  exact z_reti (pc := 4) ret d_C_size_4 rfl rfl
set_option maxRecDepth 100000 in
set_option maxHeartbeats 4000000 in
theorem c_C_has (u : US) (x : Int32)  : MI l D vwCl (CT cI cJ cC cZ) (CW a cI cJ cC) y_C_has (wA y_C_has prog_2_method_3_code 2 (some .boolean)) { frames := 0, cells := 0, slots := 0, locals := 0 } [.ref (a 12), .int x] u (bI (hasIx (uC u).1 x)) (u) := by
  refine MI.ofZ (cc := prog_2_method_3_code) (nL := 2) (by decide) rfl (Nat.le_of_ble_eq_true rfl) ?_
  intro p e s m below meth c A Q K ret
  refine z_lvE (lv' := [(0, .ref (a 12)), (1, .int x)]) rfl ?_
  refine z_iload_n (pc := 0) K d_C_has_0 rfl ?_
  refine z_if_lt (pc := 1) K (tgt := 16) d_C_has_1 (by decide) (fun c1 => ?_) (fun c1 => ?_)
  · refine z_iconst (pc := 16) K (v := 0) d_C_has_16 (by decide) ?_
    refine z_eqi (y := bI false) rfl ?_
    exact z_reti (pc := 17) ret d_C_has_17 (by simp [hasIx, c1]) rfl
  · refine z_iload_n (pc := 4) K d_C_has_4 rfl ?_
    refine z_aload_n (pc := 5) K d_C_has_5 rfl ?_
    refine z_get (pc := 6) K (ref := "DemandTerms$Clashes") d_C_has_6 hi_C 12 rfl rfl 4 (by decide) k84 rfl rfl ?_
    refine z_icmp_ge (pc := 9) K (tgt := 16) d_C_has_9 (by decide) (fun c9 => ?_) (fun c9 => ?_)
    · refine z_iconst (pc := 16) K (v := 0) d_C_has_16 (by decide) ?_
      refine z_eqi (y := bI false) rfl ?_
      exact z_reti (pc := 17) ret d_C_has_17 (by simp [hasIx, c1, c9]) rfl
    · refine z_iconst (pc := 12) K (v := 1) d_C_has_12 (by decide) ?_
      refine z_goto (pc := 13) K (tgt := 17) d_C_has_13 (by decide) ?_
      refine z_eqi (y := bI true) rfl ?_
      exact z_reti (pc := 17) ret d_C_has_17 (by simp [hasIx, c1, c9]) rfl
set_option maxRecDepth 100000 in
set_option maxHeartbeats 4000000 in
theorem c_C_sourceOf (u : US) (x : Int32) (hu : uOk u) : MI l D vwCl (CT cI cJ cC cZ) (CW a cI cJ cC) y_C_sourceOf (wA y_C_sourceOf prog_2_method_12_code 2 (some .int)) { frames := 1, cells := 0, slots := 0, locals := 21 } [.ref (a 12), .int x] u (c_src (uC u) x) (u) := by
  refine MI.of (cc := prog_2_method_12_code) (nL := 2) (by decide) rfl (Nat.le_of_ble_eq_true rfl) ?_
  intro p e s m below meth c A Q K ret
  refine z_lvE (lv' := [(0, .ref (a 12)), (1, .int x)]) rfl ?_
  refine z_aload_n (pc := 0) K d_C_sourceOf_0 rfl ?_
  refine z_iload_n (pc := 1) K d_C_sourceOf_1 rfl ?_
  refine z_cVi (pc := 2) K 12 (c_C_has _ _ ) (cwA K 1 k260 k261 k262 k5 k263 q_C_has ⟨Nat.le_of_ble_eq_true rfl, Nat.le_of_ble_eq_true rfl⟩) d_C_sourceOf_2 rfl rfl rfl rfl rfl (Nat.le_of_ble_eq_true rfl) ⟨Nat.le_of_ble_eq_true rfl, Nat.le_of_ble_eq_true rfl⟩ ?_
  refine z_ifb_eq (pc := 5) K (tgt := 17) d_C_sourceOf_5 (by decide) (fun c5 => ?_) (fun c5 => ?_)
  · refine z_iconst (pc := 17) K (v := (-1)) d_C_sourceOf_17 (by decide) ?_
    exact z_reti (pc := 18) ret d_C_sourceOf_18 (by simp [c_src, c5]) rfl
  · refine z_aload_n (pc := 8) K d_C_sourceOf_8 rfl ?_
    refine z_get (pc := 9) K (ref := "DemandTerms$Clashes") d_C_sourceOf_9 hi_C 12 rfl rfl 2 (by decide) k82 rfl rfl ?_
    refine z_iload_n (pc := 12) K d_C_sourceOf_12 rfl ?_
    refine z_iald (pc := 13) K d_C_sourceOf_13 15 0 rfl rfl (hasIx_in c5 hu.2.2.2.1 (by decide)) ?_
    refine z_goto (pc := 14) K (tgt := 18) d_C_sourceOf_14 (by decide) ?_
    exact z_reti (pc := 18) ret d_C_sourceOf_18 (by simp [c_src, c5]) rfl
set_option maxRecDepth 100000 in
set_option maxHeartbeats 4000000 in
theorem c_C_runOf (u : US) (x : Int32) (hu : uOk u) : ML l D vwCl (CT cI cJ cC cZ) (CW a cI cJ cC) y_C_runOf (wA y_C_runOf prog_2_method_13_code 2 (some .long)) { frames := 1, cells := 0, slots := 0, locals := 21 } [.ref (a 12), .int x] u (c_run (uC u) x) (u) := by
  refine ML.of (cc := prog_2_method_13_code) (nL := 2) (by decide) rfl (Nat.le_of_ble_eq_true rfl) ?_
  intro p e s m below meth c A Q K ret
  refine z_lvE (lv' := [(0, .ref (a 12)), (1, .int x)]) rfl ?_
  refine z_aload_n (pc := 0) K d_C_runOf_0 rfl ?_
  refine z_iload_n (pc := 1) K d_C_runOf_1 rfl ?_
  refine z_cVi (pc := 2) K 12 (c_C_has _ _ ) (cwA K 1 k260 k261 k262 k5 k263 q_C_has ⟨Nat.le_of_ble_eq_true rfl, Nat.le_of_ble_eq_true rfl⟩) d_C_runOf_2 rfl rfl rfl rfl rfl (Nat.le_of_ble_eq_true rfl) ⟨Nat.le_of_ble_eq_true rfl, Nat.le_of_ble_eq_true rfl⟩ ?_
  refine z_ifb_eq (pc := 5) K (tgt := 17) d_C_runOf_5 (by decide) (fun c5 => ?_) (fun c5 => ?_)
  · refine z_lconst (pc := 17) K (v := 0) d_C_runOf_17 (by decide) ?_
    exact z_retl (pc := 18) ret d_C_runOf_18 (by simp [c_run, c5]) rfl
  · refine z_aload_n (pc := 8) K d_C_runOf_8 rfl ?_
    refine z_get (pc := 9) K (ref := "DemandTerms$Clashes") d_C_runOf_9 hi_C 12 rfl rfl 3 (by decide) k83 rfl rfl ?_
    refine z_iload_n (pc := 12) K d_C_runOf_12 rfl ?_
    refine z_lald (pc := 13) K d_C_runOf_13 16 1 rfl rfl (hasIx_in c5 hu.2.2.2.1 (by decide)) ?_
    refine z_goto (pc := 14) K (tgt := 18) d_C_runOf_14 (by decide) ?_
    exact z_retl (pc := 18) ret d_C_runOf_18 (by simp [c_run, c5]) rfl
set_option maxRecDepth 100000 in
set_option maxHeartbeats 4000000 in
theorem c_C_partsOf (u : US) (x : Int32) (hu : uOk u) : MI l D vwCl (CT cI cJ cC cZ) (CW a cI cJ cC) y_C_partsOf (wA y_C_partsOf prog_2_method_9_code 2 (some .int)) { frames := 1, cells := 0, slots := 0, locals := 21 } [.ref (a 12), .int x] u (c_parts (uC u) x) (u) := by
  refine MI.of (cc := prog_2_method_9_code) (nL := 2) (by decide) rfl (Nat.le_of_ble_eq_true rfl) ?_
  intro p e s m below meth c A Q K ret
  refine z_lvE (lv' := [(0, .ref (a 12)), (1, .int x)]) rfl ?_
  refine z_aload_n (pc := 0) K d_C_partsOf_0 rfl ?_
  refine z_iload_n (pc := 1) K d_C_partsOf_1 rfl ?_
  refine z_cVi (pc := 2) K 12 (c_C_has _ _ ) (cwA K 1 k260 k261 k262 k5 k263 q_C_has ⟨Nat.le_of_ble_eq_true rfl, Nat.le_of_ble_eq_true rfl⟩) d_C_partsOf_2 rfl rfl rfl rfl rfl (Nat.le_of_ble_eq_true rfl) ⟨Nat.le_of_ble_eq_true rfl, Nat.le_of_ble_eq_true rfl⟩ ?_
  refine z_ifb_eq (pc := 5) K (tgt := 20) d_C_partsOf_5 (by decide) (fun c5 => ?_) (fun c5 => ?_)
  · refine z_iconst (pc := 20) K (v := 0) d_C_partsOf_20 (by decide) ?_
    exact z_reti (pc := 21) ret d_C_partsOf_21 (by simp [c_parts, c5]) rfl
  · refine z_aload_n (pc := 8) K d_C_partsOf_8 rfl ?_
    refine z_get (pc := 9) K (ref := "DemandTerms$Clashes") d_C_partsOf_9 hi_C 12 rfl rfl 0 (by decide) k80 rfl rfl ?_
    refine z_iload_n (pc := 12) K d_C_partsOf_12 rfl ?_
    refine z_iald (pc := 13) K d_C_partsOf_13 13 0 rfl rfl (hasIx_in c5 hu.2.2.2.1 (by decide)) ?_
    refine z_cSi (pc := 14) K (c_JI_bitCount _ _ ) (cwSA K 1 k351 k352 k9 k353 q_JI_bitCount.2 ⟨Nat.le_of_ble_eq_true rfl, Nat.le_of_ble_eq_true rfl⟩) d_C_partsOf_14 rfl rfl (Nat.le_of_ble_eq_true rfl) ⟨Nat.le_of_ble_eq_true rfl, Nat.le_of_ble_eq_true rfl⟩ ?_
    refine z_goto (pc := 17) K (tgt := 21) d_C_partsOf_17 (by decide) ?_
    exact z_reti (pc := 21) ret d_C_partsOf_21 (by simp [c_parts, c5]) rfl
set_option maxRecDepth 100000 in
set_option maxHeartbeats 4000000 in
theorem c_C_add (u : US) (src : Int32) (run : Int64) (hu : uOk u) : MI l D vwCl (CT cI cJ cC cZ) (CW a cI cJ cC) y_C_add (wA y_C_add prog_2_method_4_code 4 (some .int)) { frames := 0, cells := 0, slots := 0, locals := 0 } [.ref (a 12), .int src, .long run] u ((c_add (uC u) src run).1) (wC u (c_add (uC u) src run).2) := by
  refine MI.of (cc := prog_2_method_4_code) (nL := 4) (by decide) rfl (Nat.le_of_ble_eq_true rfl) ?_
  intro p e s m below meth c A Q K ret
  refine z_lvE (lv' := [(0, .ref (a 12)), (1, .int src), (2, .long run)]) rfl ?_
  refine z_aload_n (pc := 0) K d_C_add_0 rfl ?_
  refine z_get (pc := 1) K (ref := "DemandTerms$Clashes") d_C_add_1 hi_C 12 rfl rfl 4 (by decide) k84 rfl rfl ?_
  refine z_sipush (pc := 4) K (v := 300) d_C_add_4 (by decide) ?_
  refine z_icmp_lt (pc := 7) K (tgt := 12) d_C_add_7 (by decide) (fun c7 => ?_) (fun c7 => ?_)
  · have hyes : ¬ (300 : Int32) ≤ nI (uC u).1 := i_not_le_of_lt c7
    have hlt : (uC u).1 < 300 := ad_lt (N := 300) hu.2.2.2.1 (by decide) hyes
    refine z_aload_n (pc := 12) K d_C_add_12 rfl ?_
    refine z_get (pc := 13) K (ref := "DemandTerms$Clashes") d_C_add_13 hi_C 12 rfl rfl 0 (by decide) k80 rfl rfl ?_
    refine z_aload_n (pc := 16) K d_C_add_16 rfl ?_
    refine z_get (pc := 17) K (ref := "DemandTerms$Clashes") d_C_add_17 hi_C 12 rfl rfl 4 (by decide) k84 rfl rfl ?_
    refine z_iconst (pc := 20) K (v := 0) d_C_add_20 (by decide) ?_
    refine z_iast (pc := 21) K (ws' := (CW a cI cJ cC (wC u ((uC u).1, upd (cH (uC u)) (nI (uC u).1).toNatClampNeg 0, cP (uC u), cO (uC u), cR (uC u))))) d_C_add_21 13 0 rfl rfl (vp_in_nI hlt (by decide)) rfl ?_
    refine z_aload_n (pc := 22) K d_C_add_22 rfl ?_
    refine z_get (pc := 23) K (ref := "DemandTerms$Clashes") d_C_add_23 hi_C 12 rfl rfl 2 (by decide) k82 rfl rfl ?_
    refine z_aload_n (pc := 26) K d_C_add_26 rfl ?_
    refine z_get (pc := 27) K (ref := "DemandTerms$Clashes") d_C_add_27 hi_C 12 rfl rfl 4 (by decide) k84 rfl rfl ?_
    refine z_iload_n (pc := 30) K d_C_add_30 rfl ?_
    refine z_iast (pc := 31) K (ws' := (CW a cI cJ cC (wC u ((uC u).1, upd (cH (uC u)) (nI (uC u).1).toNatClampNeg 0, cP (uC u), upd (cO (uC u)) (nI (uC u).1).toNatClampNeg src, cR (uC u))))) d_C_add_31 15 0 rfl rfl (vp_in_nI hlt (by decide)) rfl ?_
    refine z_aload_n (pc := 32) K d_C_add_32 rfl ?_
    refine z_get (pc := 33) K (ref := "DemandTerms$Clashes") d_C_add_33 hi_C 12 rfl rfl 3 (by decide) k83 rfl rfl ?_
    refine z_aload_n (pc := 36) K d_C_add_36 rfl ?_
    refine z_get (pc := 37) K (ref := "DemandTerms$Clashes") d_C_add_37 hi_C 12 rfl rfl 4 (by decide) k84 rfl rfl ?_
    refine z_lload_n (pc := 40) K d_C_add_40 rfl ?_
    refine z_last (pc := 41) K (ws' := (CW a cI cJ cC (wC u ((uC u).1, upd (cH (uC u)) (nI (uC u).1).toNatClampNeg 0, cP (uC u), upd (cO (uC u)) (nI (uC u).1).toNatClampNeg src, vp_updL (cR (uC u)) (nI (uC u).1).toNatClampNeg run)))) d_C_add_41 16 1 rfl rfl (vp_in_nI hlt (by decide)) rfl ?_
    refine z_aload_n (pc := 42) K d_C_add_42 rfl ?_
    refine z_dup (pc := 43) K d_C_add_43 rfl ?_
    refine z_get (pc := 44) K (ref := "DemandTerms$Clashes") d_C_add_44 hi_C 12 rfl rfl 4 (by decide) k84 rfl rfl ?_
    refine z_iconst (pc := 47) K (v := 1) d_C_add_47 (by decide) ?_
    refine z_iadd (pc := 48) K d_C_add_48 ?_
    refine z_eqi (nI_1 _) ?_
    refine z_put (pc := 49) K (ref := "DemandTerms$Clashes") (ws' := (CW a cI cJ cC (wC u ((uC u).1 + 1, upd (cH (uC u)) (nI (uC u).1).toNatClampNeg 0, cP (uC u), upd (cO (uC u)) (nI (uC u).1).toNatClampNeg src, vp_updL (cR (uC u)) (nI (uC u).1).toNatClampNeg run)))) d_C_add_49 hi_C ty_C ty_C_ok nm_C 12 rfl rfl 4 (by decide) k84 rfl rfl rfl rfl rfl (Nat.le_of_ble_eq_true rfl) rfl ?_
    refine z_aload_n (pc := 52) K d_C_add_52 rfl ?_
    refine z_get (pc := 53) K (ref := "DemandTerms$Clashes") d_C_add_53 hi_C 12 rfl rfl 4 (by decide) k84 rfl rfl ?_
    refine z_iconst (pc := 56) K (v := 1) d_C_add_56 (by decide) ?_
    refine z_isub (pc := 57) K d_C_add_57 ?_
    exact z_reti (pc := 58) ret d_C_add_58 (by rw [c_add, if_neg hyes] <;> exact nI_pred _) (by rw [c_add, if_neg hyes, nI_clamp (show (uC u).1 < 2 ^ 31 by omega)] <;> rfl)
  · have hno : (300 : Int32) ≤ nI (uC u).1 := i_le_of_not_lt c7
    refine z_iconst (pc := 10) K (v := (-1)) d_C_add_10 (by decide) ?_
    exact z_reti (pc := 11) ret d_C_add_11 (by rw [c_add, if_pos hno] <;> rfl) (by rw [c_add, if_pos hno] <;> rfl)
set_option maxRecDepth 100000 in
set_option maxHeartbeats 4000000 in
theorem c_C_cutTo (u : US) (n : Nat) (hu : uOk u) (hn : n ≤ 300) : MV l D vwCl (CT cI cJ cC cZ) (CW a cI cJ cC) y_C_cutTo (wA y_C_cutTo prog_2_method_5_code 2 none) { frames := 0, cells := 0, slots := 0, locals := 0 } [.ref (a 12), .int (nI n)] u (wC u (c_cut (uC u) n)) := by
  refine MV.of (cc := prog_2_method_5_code) (nL := 2) (by decide) rfl (Nat.le_of_ble_eq_true rfl) ?_
  intro p e s m below meth c A Q K ret
  refine z_lvE (lv' := [(0, .ref (a 12)), (1, .int (nI n))]) rfl ?_
  have hb := hu.2.2.2.1
  refine z_iload_n (pc := 0) K d_C_cutTo_0 rfl ?_
  refine z_if_lt (pc := 1) K (tgt := 17) d_C_cutTo_1 (by decide) (fun c1 => ?_) (fun c1 => ?_)
  · exact absurd c1 (nI_pos (by omega))
  · refine z_iload_n (pc := 4) K d_C_cutTo_4 rfl ?_
    refine z_aload_n (pc := 5) K d_C_cutTo_5 rfl ?_
    refine z_get (pc := 6) K (ref := "DemandTerms$Clashes") d_C_cutTo_6 hi_C 12 rfl rfl 4 (by decide) k84 rfl rfl ?_
    refine z_icmp_ge (pc := 9) K (tgt := 17) d_C_cutTo_9 (by decide) (fun c9 => ?_) (fun c9 => ?_)
    · exact z_retv (pc := 17) ret d_C_cutTo_17 (by rw [c_cut, if_neg (Nat.not_lt.mpr ((nI_leI (by omega) (by omega)).mp c9))] <;> rfl)
    · refine z_aload_n (pc := 12) K d_C_cutTo_12 rfl ?_
      refine z_iload_n (pc := 13) K d_C_cutTo_13 rfl ?_
      refine z_put (pc := 14) K (ref := "DemandTerms$Clashes") (ws' := (CW a cI cJ cC (wC u (n, (uC u).2)))) d_C_cutTo_14 hi_C ty_C ty_C_ok nm_C 12 rfl rfl 4 (by decide) k84 rfl rfl rfl rfl rfl (Nat.le_of_ble_eq_true rfl) rfl ?_
      exact z_retv (pc := 17) ret d_C_cutTo_17 (by rw [c_cut, if_pos (Nat.not_le.mp (fun h => c9 ((nI_leI (by omega) (by omega)).mpr h)))] <;> rfl)
set_option maxRecDepth 100000 in
set_option maxHeartbeats 4000000 in
theorem c_C_put (u : US) (k : Int32) (x : Int32) (pl : Int64) (hu : uOk u) : MV l D vwCl (CT cI cJ cC cZ) (CW a cI cJ cC) y_C_put (wA y_C_put prog_2_method_6_code 5 none) { frames := 1, cells := 0, slots := 0, locals := 21 } [.ref (a 12), .int k, .int x, .long pl] u (wC u (c_put (uC u) k x pl)) := by
  refine MV.of (cc := prog_2_method_6_code) (nL := 5) (by decide) rfl (Nat.le_of_ble_eq_true rfl) ?_
  intro p e s m below meth c A Q K ret
  refine z_lvE (lv' := [(0, .ref (a 12)), (1, .int k), (2, .int x), (3, .long pl)]) rfl ?_
  refine z_aload_n (pc := 0) K d_C_put_0 rfl ?_
  refine z_iload_n (pc := 1) K d_C_put_1 rfl ?_
  refine z_cVi (pc := 2) K 12 (c_C_has _ _ ) (cwA K 1 k260 k261 k262 k5 k263 q_C_has ⟨Nat.le_of_ble_eq_true rfl, Nat.le_of_ble_eq_true rfl⟩) d_C_put_2 rfl rfl rfl rfl rfl (Nat.le_of_ble_eq_true rfl) ⟨Nat.le_of_ble_eq_true rfl, Nat.le_of_ble_eq_true rfl⟩ ?_
  refine z_ifb_eq (pc := 5) K (tgt := 42) d_C_put_5 (by decide) (fun c5 => ?_) (fun c5 => ?_)
  · exact z_retv (pc := 42) ret d_C_put_42 (by simp [c_put, c_in16, c5])
  · refine z_iload_n (pc := 8) K d_C_put_8 rfl ?_
    refine z_if_lt (pc := 9) K (tgt := 42) d_C_put_9 (by decide) (fun c9 => ?_) (fun c9 => ?_)
    · exact z_retv (pc := 42) ret d_C_put_42 (by simp [c_put, c_in16, c5, c9])
    · refine z_iload_n (pc := 12) K d_C_put_12 rfl ?_
      refine z_bipush (pc := 13) K (v := 16) d_C_put_13 (by decide) ?_
      refine z_icmp_ge (pc := 15) K (tgt := 42) d_C_put_15 (by decide) (fun c15 => ?_) (fun c15 => ?_)
      · exact z_retv (pc := 42) ret d_C_put_42 (by simp [c_put, c_in16, c5, c9, c15])
      · refine z_aload_n (pc := 18) K d_C_put_18 rfl ?_
        refine z_get (pc := 19) K (ref := "DemandTerms$Clashes") d_C_put_19 hi_C 12 rfl rfl 0 (by decide) k80 rfl rfl ?_
        refine z_iload_n (pc := 22) K d_C_put_22 rfl ?_
        refine z_dup2 (pc := 23) K d_C_put_23 rfl rfl ?_
        refine z_iald (pc := 24) K d_C_put_24 13 0 rfl rfl (hasIx_in c5 hu.2.2.2.1 (by decide)) ?_
        refine z_iconst (pc := 25) K (v := 1) d_C_put_25 (by decide) ?_
        refine z_iload_n (pc := 26) K d_C_put_26 rfl ?_
        refine z_ishl (pc := 27) K d_C_put_27 ?_
        refine z_ior (pc := 28) K d_C_put_28 ?_
        refine z_iast (pc := 29) K (ws' := (CW a cI cJ cC (wC u ((uC u).1, upd (cH (uC u)) k.toNatClampNeg (cH (uC u) k.toNatClampNeg ||| ((1 : Int32) <<< (x &&& 31))), cP (uC u), cO (uC u), cR (uC u))))) d_C_put_29 13 0 rfl rfl (hasIx_in c5 hu.2.2.2.1 (by decide)) rfl ?_
        refine z_aload_n (pc := 30) K d_C_put_30 rfl ?_
        refine z_get (pc := 31) K (ref := "DemandTerms$Clashes") d_C_put_31 hi_C 12 rfl rfl 1 (by decide) k81 rfl rfl ?_
        refine z_iload_n (pc := 34) K d_C_put_34 rfl ?_
        refine z_bipush (pc := 35) K (v := 16) d_C_put_35 (by decide) ?_
        refine z_imul (pc := 37) K d_C_put_37 ?_
        refine z_iload_n (pc := 38) K d_C_put_38 rfl ?_
        refine z_iadd (pc := 39) K d_C_put_39 ?_
        refine z_lload_n (pc := 40) K d_C_put_40 rfl ?_
        refine z_last (pc := 41) K (ws' := (CW a cI cJ cC (wC u ((uC u).1, upd (cH (uC u)) k.toNatClampNeg (cH (uC u) k.toNatClampNeg ||| ((1 : Int32) <<< (x &&& 31))), vp_updL (cP (uC u)) (k.toNatClampNeg * 16 + x.toNatClampNeg) pl, cO (uC u), cR (uC u))))) d_C_put_41 14 1 rfl rfl (c_inP c5 hu.2.2.2.1 c9 c15).1 (by rw [(c_inP c5 hu.2.2.2.1 c9 c15).2]; rfl) ?_
        exact z_retv (pc := 42) ret d_C_put_42 (by simp [c_put, c_in16, c5, c9, c15])
set_option maxRecDepth 100000 in
set_option maxHeartbeats 4000000 in
theorem c_C_holds (u : US) (k : Int32) (x : Int32) (hu : uOk u) : MI l D vwCl (CT cI cJ cC cZ) (CW a cI cJ cC) y_C_holds (wA y_C_holds prog_2_method_7_code 3 (some .boolean)) { frames := 1, cells := 0, slots := 0, locals := 21 } [.ref (a 12), .int k, .int x] u (bI (c_holds (uC u) k x)) (u) := by
  refine MI.ofZ (cc := prog_2_method_7_code) (nL := 3) (by decide) rfl (Nat.le_of_ble_eq_true rfl) ?_
  intro p e s m below meth c A Q K ret
  refine z_lvE (lv' := [(0, .ref (a 12)), (1, .int k), (2, .int x)]) rfl ?_
  refine z_aload_n (pc := 0) K d_C_holds_0 rfl ?_
  refine z_iload_n (pc := 1) K d_C_holds_1 rfl ?_
  refine z_cVi (pc := 2) K 12 (c_C_has _ _ ) (cwA K 1 k260 k261 k262 k5 k263 q_C_has ⟨Nat.le_of_ble_eq_true rfl, Nat.le_of_ble_eq_true rfl⟩) d_C_holds_2 rfl rfl rfl rfl rfl (Nat.le_of_ble_eq_true rfl) ⟨Nat.le_of_ble_eq_true rfl, Nat.le_of_ble_eq_true rfl⟩ ?_
  refine z_ifb_eq (pc := 5) K (tgt := 35) d_C_holds_5 (by decide) (fun c5 => ?_) (fun c5 => ?_)
  · refine z_iconst (pc := 35) K (v := 0) d_C_holds_35 (by decide) ?_
    refine z_eqi (y := bI false) rfl ?_
    exact z_reti (pc := 36) ret d_C_holds_36 (by simp [c_holds, c_in16, c5]) rfl
  · refine z_iload_n (pc := 8) K d_C_holds_8 rfl ?_
    refine z_if_lt (pc := 9) K (tgt := 35) d_C_holds_9 (by decide) (fun c9 => ?_) (fun c9 => ?_)
    · refine z_iconst (pc := 35) K (v := 0) d_C_holds_35 (by decide) ?_
      refine z_eqi (y := bI false) rfl ?_
      exact z_reti (pc := 36) ret d_C_holds_36 (by simp [c_holds, c_in16, c5, c9]) rfl
    · refine z_iload_n (pc := 12) K d_C_holds_12 rfl ?_
      refine z_bipush (pc := 13) K (v := 16) d_C_holds_13 (by decide) ?_
      refine z_icmp_ge (pc := 15) K (tgt := 35) d_C_holds_15 (by decide) (fun c15 => ?_) (fun c15 => ?_)
      · refine z_iconst (pc := 35) K (v := 0) d_C_holds_35 (by decide) ?_
        refine z_eqi (y := bI false) rfl ?_
        exact z_reti (pc := 36) ret d_C_holds_36 (by simp [c_holds, c_in16, c5, c9, c15]) rfl
      · refine z_aload_n (pc := 18) K d_C_holds_18 rfl ?_
        refine z_get (pc := 19) K (ref := "DemandTerms$Clashes") d_C_holds_19 hi_C 12 rfl rfl 0 (by decide) k80 rfl rfl ?_
        refine z_iload_n (pc := 22) K d_C_holds_22 rfl ?_
        refine z_iald (pc := 23) K d_C_holds_23 13 0 rfl rfl (hasIx_in c5 hu.2.2.2.1 (by decide)) ?_
        refine z_iload_n (pc := 24) K d_C_holds_24 rfl ?_
        refine z_iushr (pc := 25) K d_C_holds_25 ?_
        refine z_iconst (pc := 26) K (v := 1) d_C_holds_26 (by decide) ?_
        refine z_iand (pc := 27) K d_C_holds_27 ?_
        refine z_if_eq (pc := 28) K (tgt := 35) d_C_holds_28 (by decide) (fun c28 => ?_) (fun c28 => ?_)
        · refine z_iconst (pc := 35) K (v := 0) d_C_holds_35 (by decide) ?_
          refine z_eqi (y := bI false) rfl ?_
          exact z_reti (pc := 36) ret d_C_holds_36 (by simp [c_holds, c_in16, c5, c9, c15, c28]) rfl
        · refine z_iconst (pc := 31) K (v := 1) d_C_holds_31 (by decide) ?_
          refine z_goto (pc := 32) K (tgt := 36) d_C_holds_32 (by decide) ?_
          refine z_eqi (y := bI true) rfl ?_
          exact z_reti (pc := 36) ret d_C_holds_36 (by simp [c_holds, c_in16, c5, c9, c15, c28]) rfl
set_option maxRecDepth 100000 in
set_option maxHeartbeats 4000000 in
theorem c_C_placesOf (u : US) (k : Int32) (x : Int32) (hu : uOk u) : ML l D vwCl (CT cI cJ cC cZ) (CW a cI cJ cC) y_C_placesOf (wA y_C_placesOf prog_2_method_8_code 3 (some .long)) { frames := 2, cells := 0, slots := 0, locals := 43 } [.ref (a 12), .int k, .int x] u (c_pl (uC u) k x) (u) := by
  refine ML.of (cc := prog_2_method_8_code) (nL := 3) (by decide) rfl (Nat.le_of_ble_eq_true rfl) ?_
  intro p e s m below meth c A Q K ret
  refine z_lvE (lv' := [(0, .ref (a 12)), (1, .int k), (2, .int x)]) rfl ?_
  refine z_aload_n (pc := 0) K d_C_placesOf_0 rfl ?_
  refine z_iload_n (pc := 1) K d_C_placesOf_1 rfl ?_
  refine z_iload_n (pc := 2) K d_C_placesOf_2 rfl ?_
  refine z_cVi (pc := 3) K 12 (c_C_holds _ _ _ hu) (cwA K 2 k337 k322 k323 k5 k324 q_C_holds ⟨Nat.le_of_ble_eq_true rfl, Nat.le_of_ble_eq_true rfl⟩) d_C_placesOf_3 rfl rfl rfl rfl rfl (Nat.le_of_ble_eq_true rfl) ⟨Nat.le_of_ble_eq_true rfl, Nat.le_of_ble_eq_true rfl⟩ ?_
  refine z_ifb_eq (pc := 6) K (tgt := 23) d_C_placesOf_6 (by decide) (fun c6 => ?_) (fun c6 => ?_)
  · refine z_lconst (pc := 23) K (v := 0) d_C_placesOf_23 (by decide) ?_
    exact z_retl (pc := 24) ret d_C_placesOf_24 (by simp [c_pl, c6]) rfl
  · refine z_aload_n (pc := 9) K d_C_placesOf_9 rfl ?_
    refine z_get (pc := 10) K (ref := "DemandTerms$Clashes") d_C_placesOf_10 hi_C 12 rfl rfl 1 (by decide) k81 rfl rfl ?_
    refine z_iload_n (pc := 13) K d_C_placesOf_13 rfl ?_
    refine z_bipush (pc := 14) K (v := 16) d_C_placesOf_14 (by decide) ?_
    refine z_imul (pc := 16) K d_C_placesOf_16 ?_
    refine z_iload_n (pc := 17) K d_C_placesOf_17 rfl ?_
    refine z_iadd (pc := 18) K d_C_placesOf_18 ?_
    refine z_lald (pc := 19) K d_C_placesOf_19 14 1 rfl rfl (c_inH c6 hu.2.2.2.1).1 ?_
    refine z_goto (pc := 20) K (tgt := 24) d_C_placesOf_20 (by decide) ?_
    exact z_retl (pc := 24) ret d_C_placesOf_24 (by simp [c_pl, c6, (c_inH c6 hu.2.2.2.1).2]) rfl
set_option maxRecDepth 100000 in
set_option maxHeartbeats 4000000 in
theorem c_C_indexOf (u : US) (k : Int32) (x : Int32) (hu : uOk u) : MI l D vwCl (CT cI cJ cC cZ) (CW a cI cJ cC) y_C_indexOf (wA y_C_indexOf prog_2_method_11_code 3 (some .int)) { frames := 2, cells := 0, slots := 0, locals := 43 } [.ref (a 12), .int k, .int x] u (c_ix (uC u) k x) (u) := by
  refine MI.of (cc := prog_2_method_11_code) (nL := 3) (by decide) rfl (Nat.le_of_ble_eq_true rfl) ?_
  intro p e s m below meth c A Q K ret
  refine z_lvE (lv' := [(0, .ref (a 12)), (1, .int k), (2, .int x)]) rfl ?_
  refine z_aload_n (pc := 0) K d_C_indexOf_0 rfl ?_
  refine z_iload_n (pc := 1) K d_C_indexOf_1 rfl ?_
  refine z_iload_n (pc := 2) K d_C_indexOf_2 rfl ?_
  refine z_cVi (pc := 3) K 12 (c_C_holds _ _ _ hu) (cwA K 2 k337 k322 k323 k5 k324 q_C_holds ⟨Nat.le_of_ble_eq_true rfl, Nat.le_of_ble_eq_true rfl⟩) d_C_indexOf_3 rfl rfl rfl rfl rfl (Nat.le_of_ble_eq_true rfl) ⟨Nat.le_of_ble_eq_true rfl, Nat.le_of_ble_eq_true rfl⟩ ?_
  refine z_ifb_eq (pc := 6) K (tgt := 27) d_C_indexOf_6 (by decide) (fun c6 => ?_) (fun c6 => ?_)
  · refine z_iconst (pc := 27) K (v := (-1)) d_C_indexOf_27 (by decide) ?_
    exact z_reti (pc := 28) ret d_C_indexOf_28 (by simp [c_ix, c6]) rfl
  · refine z_aload_n (pc := 9) K d_C_indexOf_9 rfl ?_
    refine z_get (pc := 10) K (ref := "DemandTerms$Clashes") d_C_indexOf_10 hi_C 12 rfl rfl 0 (by decide) k80 rfl rfl ?_
    refine z_iload_n (pc := 13) K d_C_indexOf_13 rfl ?_
    refine z_iald (pc := 14) K d_C_indexOf_14 13 0 rfl rfl (hasIx_in (c_holds_has c6) hu.2.2.2.1 (by decide)) ?_
    refine z_iconst (pc := 15) K (v := 1) d_C_indexOf_15 (by decide) ?_
    refine z_iload_n (pc := 16) K d_C_indexOf_16 rfl ?_
    refine z_ishl (pc := 17) K d_C_indexOf_17 ?_
    refine z_iconst (pc := 18) K (v := 1) d_C_indexOf_18 (by decide) ?_
    refine z_isub (pc := 19) K d_C_indexOf_19 ?_
    refine z_iand (pc := 20) K d_C_indexOf_20 ?_
    refine z_cSi (pc := 21) K (c_JI_bitCount _ _ ) (cwSA K 1 k351 k352 k9 k353 q_JI_bitCount.2 ⟨Nat.le_of_ble_eq_true rfl, Nat.le_of_ble_eq_true rfl⟩) d_C_indexOf_21 rfl rfl (Nat.le_of_ble_eq_true rfl) ⟨Nat.le_of_ble_eq_true rfl, Nat.le_of_ble_eq_true rfl⟩ ?_
    refine z_goto (pc := 24) K (tgt := 28) d_C_indexOf_24 (by decide) ?_
    exact z_reti (pc := 28) ret d_C_indexOf_28 (by simp [c_ix, c6]) rfl
set_option maxRecDepth 100000 in
set_option maxHeartbeats 4000000 in
theorem c_C_nameAt (u : US) (k : Int32) (ix : Int32) (hu : uOk u) : MI l D vwCl (CT cI cJ cC cZ) (CW a cI cJ cC) y_C_nameAt (wA y_C_nameAt prog_2_method_10_code 4 (some .int)) { frames := 3, cells := 0, slots := 0, locals := 65 } [.ref (a 12), .int k, .int ix] u (c_nameAt (uC u) k ix) (u) := by
  refine MI.of (cc := prog_2_method_10_code) (nL := 4) (by decide) rfl (Nat.le_of_ble_eq_true rfl) ?_
  intro p e s m below meth c A Q K ret
  refine z_lvE (lv' := [(0, .ref (a 12)), (1, .int k), (2, .int ix)]) rfl ?_
  refine z_iconst (pc := 0) K (v := 0) d_C_nameAt_0 (by decide) ?_
  refine z_istore_n (pc := 1) K d_C_nameAt_1 rfl (by decide) rfl ?_
  have LP : ∀ (n i : Nat), i + n = 16 → fnd (fun x => if c_holds (uC u) k (nI x) = true then decide (c_ix (uC u) k (nI x) = ix) else false) n i = fnd (fun x => if c_holds (uC u) k (nI x) = true then decide (c_ix (uC u) k (nI x) = ix) else false) 16 0 → zW p l e { frames := 3, cells := 0, slots := 0, locals := 65 } s m [.ref (a 12), .int k, .int ix].toArray below meth c D vwCl A 4 0 0 Q (CW a cI cJ cC u) 2 [(3, .int (nI i)), (0, .ref (a 12)), (1, .int k), (2, .int ix)] [] := by
    intro n
    induction n with
    | zero =>
      intro i hi hf
      refine z_iload_n (pc := 2) K d_C_nameAt_2 rfl ?_
      refine z_bipush (pc := 3) K (v := 16) d_C_nameAt_3 (by decide) ?_
      refine z_icmp_ge (pc := 5) K (tgt := 35) d_C_nameAt_5 (by decide) (fun c5 => ?_) (fun c5 => ?_)
      · refine z_iconst (pc := 35) K (v := (-1)) d_C_nameAt_35 (by decide) ?_
        exact z_reti (pc := 36) ret d_C_nameAt_36 (by rw [c_nameAt, ← hf]; rfl) rfl
      · exact absurd (nI_le (a := 16) (b := i) (by omega) (by omega)) c5
    | succ n ih =>
      intro i hi hf
      refine z_iload_n (pc := 2) K d_C_nameAt_2 rfl ?_
      refine z_bipush (pc := 3) K (v := 16) d_C_nameAt_3 (by decide) ?_
      refine z_icmp_ge (pc := 5) K (tgt := 35) d_C_nameAt_5 (by decide) (fun c5 => ?_) (fun c5 => ?_)
      · exact absurd c5 (nI_ge (a := i) (b := 16) (by omega) (by omega))
      · refine z_aload_n (pc := 8) K d_C_nameAt_8 rfl ?_
        refine z_iload_n (pc := 9) K d_C_nameAt_9 rfl ?_
        refine z_iload_n (pc := 10) K d_C_nameAt_10 rfl ?_
        refine z_cVi (pc := 11) K 12 (c_C_holds _ _ _ hu) (cwA K 2 k337 k322 k323 k5 k324 q_C_holds ⟨Nat.le_of_ble_eq_true rfl, Nat.le_of_ble_eq_true rfl⟩) d_C_nameAt_11 rfl rfl rfl rfl rfl (Nat.le_of_ble_eq_true rfl) ⟨Nat.le_of_ble_eq_true rfl, Nat.le_of_ble_eq_true rfl⟩ ?_
        refine z_ifb_eq (pc := 14) K (tgt := 29) d_C_nameAt_14 (by decide) (fun c14 => ?_) (fun c14 => ?_)
        · refine z_iinc (pc := 29) K (v := nI (i + 1)) d_C_nameAt_29 0 rfl (inc1 i) (by decide) rfl ?_
          refine z_goto (pc := 32) K (tgt := 2) d_C_nameAt_32 (by decide) ?_
          refine z_lv [0, 1, 2, 3] rfl ?_
          exact ih (i + 1) (by omega) (by rw [← hf]; simp [fnd, c14])
        · refine z_aload_n (pc := 17) K d_C_nameAt_17 rfl ?_
          refine z_iload_n (pc := 18) K d_C_nameAt_18 rfl ?_
          refine z_iload_n (pc := 19) K d_C_nameAt_19 rfl ?_
          refine z_cVi (pc := 20) K 12 (c_C_indexOf _ _ _ hu) (cwA K 2 k365 k366 k367 k5 k368 q_C_indexOf ⟨Nat.le_of_ble_eq_true rfl, Nat.le_of_ble_eq_true rfl⟩) d_C_nameAt_20 rfl rfl rfl rfl rfl (Nat.le_of_ble_eq_true rfl) ⟨Nat.le_of_ble_eq_true rfl, Nat.le_of_ble_eq_true rfl⟩ ?_
          refine z_iload_n (pc := 23) K d_C_nameAt_23 rfl ?_
          refine z_icmp_ne (pc := 24) K (tgt := 29) d_C_nameAt_24 (by decide) (fun c24 => ?_) (fun c24 => ?_)
          · refine z_iinc (pc := 29) K (v := nI (i + 1)) d_C_nameAt_29 0 rfl (inc1 i) (by decide) rfl ?_
            refine z_goto (pc := 32) K (tgt := 2) d_C_nameAt_32 (by decide) ?_
            refine z_lv [0, 1, 2, 3] rfl ?_
            exact ih (i + 1) (by omega) (by rw [← hf]; simp [fnd, c14, c24])
          · refine z_iload_n (pc := 27) K d_C_nameAt_27 rfl ?_
            exact z_reti (pc := 28) ret d_C_nameAt_28 (by rw [c_nameAt, ← hf]; simp [fnd, fI, c14, c24]) rfl
  refine z_lv [0, 1, 2, 3] rfl ?_
  exact LP 16 0 rfl rfl
end CM
section CM
variable {l : Launch} {D : va_G} {a : Nat → Nat} {cI cJ cC cZ : ClassId}
set_option maxRecDepth 100000 in
set_option maxHeartbeats 4000000 in
theorem c_G_length (u : US)   : MI l D vwCl (CT cI cJ cC cZ) (CW a cI cJ cC) y_G_length (wA y_G_length prog_5_method_2_code 1 (some .int)) { frames := 0, cells := 0, slots := 0, locals := 0 } [.ref (a 18)] u (nI (uG u).1) (u) := by
  refine MI.of (cc := prog_5_method_2_code) (nL := 1) (by decide) rfl (Nat.le_of_ble_eq_true rfl) ?_
  intro p e s m below meth c A Q K ret
  refine z_lvE (lv' := [(0, .ref (a 18))]) rfl ?_
  refine z_aload_n (pc := 0) K d_G_length_0 rfl ?_
  refine z_get (pc := 1) K (ref := "DemandTerms$Page") d_G_length_1 hi_G 18 rfl rfl 1 (by decide) k103 rfl rfl ?_
  exact z_reti (pc := 4) ret d_G_length_4 rfl rfl
set_option maxRecDepth 100000 in
set_option maxHeartbeats 4000000 in
theorem c_G_clear (u : US)   : MV l D vwCl (CT cI cJ cC cZ) (CW a cI cJ cC) y_G_clear (wA y_G_clear prog_5_method_3_code 1 none) { frames := 0, cells := 0, slots := 0, locals := 0 } [.ref (a 18)] u (wG u (0, (uG u).2)) := by
  refine MV.of (cc := prog_5_method_3_code) (nL := 1) (by decide) rfl (Nat.le_of_ble_eq_true rfl) ?_
  intro p e s m below meth c A Q K ret
  refine z_lvE (lv' := [(0, .ref (a 18))]) rfl ?_
  refine z_aload_n (pc := 0) K d_G_clear_0 rfl ?_
  refine z_iconst (pc := 1) K (v := 0) d_G_clear_1 (by decide) ?_
  refine z_eqi (y := nI 0) nI_0.symm ?_
  refine z_put (pc := 2) K (ref := "DemandTerms$Page") (ws' := (CW a cI cJ cC (wG u (0, (uG u).2)))) d_G_clear_2 hi_G ty_G ty_G_ok nm_G 18 rfl rfl 1 (by decide) k103 rfl rfl rfl rfl rfl (Nat.le_of_ble_eq_true rfl) rfl ?_
  exact z_retv (pc := 5) ret d_G_clear_5 rfl
set_option maxRecDepth 100000 in
set_option maxHeartbeats 4000000 in
theorem c_G_put (u : US) (x : Int32) (hu : uOk u) : MV l D vwCl (CT cI cJ cC cZ) (CW a cI cJ cC) y_G_put (wA y_G_put prog_5_method_4_code 2 none) { frames := 0, cells := 0, slots := 0, locals := 0 } [.ref (a 18), .int x] u (wG u (g_put (uG u) x)) := by
  refine MV.of (cc := prog_5_method_4_code) (nL := 2) (by decide) rfl (Nat.le_of_ble_eq_true rfl) ?_
  intro p e s m below meth c A Q K ret
  refine z_lvE (lv' := [(0, .ref (a 18)), (1, .int x)]) rfl ?_
  refine z_aload_n (pc := 0) K d_G_put_0 rfl ?_
  refine z_get (pc := 1) K (ref := "DemandTerms$Page") d_G_put_1 hi_G 18 rfl rfl 1 (by decide) k103 rfl rfl ?_
  refine z_aload_n (pc := 4) K d_G_put_4 rfl ?_
  refine z_get (pc := 5) K (ref := "DemandTerms$Page") d_G_put_5 hi_G 18 rfl rfl 0 (by decide) k102 rfl rfl ?_
  refine z_alen (pc := 8) K (v := 1648) d_G_put_8 19 2 rfl rfl rfl ?_
  refine z_icmp_ge (pc := 9) K (tgt := 32) d_G_put_9 (by decide) (fun c9 => ?_) (fun c9 => ?_)
  · exact z_retv (pc := 32) ret d_G_put_32 (by rw [g_put, if_pos c9] <;> rfl)
  · have hlt : (uG u).1 < 1648 := ad_lt (N := 1648) hu.2.2.2.2 (by decide) c9
    refine z_aload_n (pc := 12) K d_G_put_12 rfl ?_
    refine z_get (pc := 13) K (ref := "DemandTerms$Page") d_G_put_13 hi_G 18 rfl rfl 0 (by decide) k102 rfl rfl ?_
    refine z_aload_n (pc := 16) K d_G_put_16 rfl ?_
    refine z_get (pc := 17) K (ref := "DemandTerms$Page") d_G_put_17 hi_G 18 rfl rfl 1 (by decide) k103 rfl rfl ?_
    refine z_iload_n (pc := 20) K d_G_put_20 rfl ?_
    refine z_cast (pc := 21) K (ws' := (CW a cI cJ cC (wG u ((uG u).1, upd (uG u).2 (nI (uG u).1).toNatClampNeg (vp_nar .char x))))) d_G_put_21 19 2 rfl rfl (vp_in_nI hlt (by decide)) rfl ?_
    refine z_aload_n (pc := 22) K d_G_put_22 rfl ?_
    refine z_dup (pc := 23) K d_G_put_23 rfl ?_
    refine z_get (pc := 24) K (ref := "DemandTerms$Page") d_G_put_24 hi_G 18 rfl rfl 1 (by decide) k103 rfl rfl ?_
    refine z_iconst (pc := 27) K (v := 1) d_G_put_27 (by decide) ?_
    refine z_iadd (pc := 28) K d_G_put_28 ?_
    refine z_eqi (nI_1 _) ?_
    refine z_put (pc := 29) K (ref := "DemandTerms$Page") (ws' := (CW a cI cJ cC (wG u ((uG u).1 + 1, upd (uG u).2 (nI (uG u).1).toNatClampNeg (vp_nar .char x))))) d_G_put_29 hi_G ty_G ty_G_ok nm_G 18 rfl rfl 1 (by decide) k103 rfl rfl rfl rfl rfl (Nat.le_of_ble_eq_true rfl) rfl ?_
    exact z_retv (pc := 32) ret d_G_put_32 (by rw [g_put, if_neg c9, nI_clamp (show (uG u).1 < 2 ^ 31 by omega)] <;> rfl)
set_option maxRecDepth 100000 in
set_option maxHeartbeats 4000000 in
theorem c_G_signAt (u : US) (i : Int32) (hu : uOk u) : MI l D vwCl (CT cI cJ cC cZ) (CW a cI cJ cC) y_G_signAt (wA y_G_signAt prog_5_method_7_code 2 (some .int)) { frames := 0, cells := 0, slots := 0, locals := 0 } [.ref (a 18), .int i] u (g_at (uG u) i) (u) := by
  refine MI.of (cc := prog_5_method_7_code) (nL := 2) (by decide) rfl (Nat.le_of_ble_eq_true rfl) ?_
  intro p e s m below meth c A Q K ret
  refine z_lvE (lv' := [(0, .ref (a 18)), (1, .int i)]) rfl ?_
  refine z_iload_n (pc := 0) K d_G_signAt_0 rfl ?_
  refine z_if_lt (pc := 1) K (tgt := 21) d_G_signAt_1 (by decide) (fun c1 => ?_) (fun c1 => ?_)
  · refine z_iconst (pc := 21) K (v := (-1)) d_G_signAt_21 (by decide) ?_
    exact z_reti (pc := 22) ret d_G_signAt_22 (by simp [g_at, c1]) rfl
  · refine z_iload_n (pc := 4) K d_G_signAt_4 rfl ?_
    refine z_aload_n (pc := 5) K d_G_signAt_5 rfl ?_
    refine z_get (pc := 6) K (ref := "DemandTerms$Page") d_G_signAt_6 hi_G 18 rfl rfl 1 (by decide) k103 rfl rfl ?_
    refine z_icmp_ge (pc := 9) K (tgt := 21) d_G_signAt_9 (by decide) (fun c9 => ?_) (fun c9 => ?_)
    · refine z_iconst (pc := 21) K (v := (-1)) d_G_signAt_21 (by decide) ?_
      exact z_reti (pc := 22) ret d_G_signAt_22 (by simp [g_at, c1, c9]) rfl
    · refine z_iload_n (pc := 12) K d_G_signAt_12 rfl ?_
      refine z_aload_n (pc := 13) K d_G_signAt_13 rfl ?_
      refine z_get (pc := 14) K (ref := "DemandTerms$Page") d_G_signAt_14 hi_G 18 rfl rfl 0 (by decide) k102 rfl rfl ?_
      refine z_alen (pc := 17) K (v := 1648) d_G_signAt_17 19 2 rfl rfl rfl ?_
      refine z_icmp_lt (pc := 18) K (tgt := 23) d_G_signAt_18 (by decide) (fun c18 => ?_) (fun c18 => ?_)
      · refine z_aload_n (pc := 23) K d_G_signAt_23 rfl ?_
        refine z_get (pc := 24) K (ref := "DemandTerms$Page") d_G_signAt_24 hi_G 18 rfl rfl 0 (by decide) k102 rfl rfl ?_
        refine z_iload_n (pc := 27) K d_G_signAt_27 rfl ?_
        refine z_cald (pc := 28) K d_G_signAt_28 19 2 rfl rfl (g_atIn c1 c18) ?_
        exact z_reti (pc := 29) ret d_G_signAt_29 (by simp [g_at, c1, c9, c18]) rfl
      · refine z_iconst (pc := 21) K (v := (-1)) d_G_signAt_21 (by decide) ?_
        exact z_reti (pc := 22) ret d_G_signAt_22 (by simp [g_at, c1, c9, c18]) rfl
set_option maxRecDepth 100000 in
set_option maxHeartbeats 4000000 in
theorem c_G_putNumber (u : US) (v : Int32) (hu : uOk u) : MV l D vwCl (CT cI cJ cC cZ) (CW a cI cJ cC) y_G_putNumber (wA y_G_putNumber prog_5_method_6_code 2 none) { frames := 1, cells := 0, slots := 0, locals := 21 } [.ref (a 18), .int v] u (wG u (g_num (uG u) v)) := by
  refine MV.of (cc := prog_5_method_6_code) (nL := 2) (by decide) rfl (Nat.le_of_ble_eq_true rfl) ?_
  intro p e s m below meth c A Q K ret
  refine z_lvE (lv' := [(0, .ref (a 18)), (1, .int v)]) rfl ?_
  refine z_iload_n (pc := 0) K d_G_putNumber_0 rfl ?_
  refine z_bipush (pc := 1) K (v := 10) d_G_putNumber_1 (by decide) ?_
  refine z_icmp_lt (pc := 3) K (tgt := 18) d_G_putNumber_3 (by decide) (fun c3 => ?_) (fun c3 => ?_)
  · refine z_aload_n (pc := 18) K d_G_putNumber_18 rfl ?_
    refine z_bipush (pc := 19) K (v := 48) d_G_putNumber_19 (by decide) ?_
    refine z_iload_n (pc := 21) K d_G_putNumber_21 rfl ?_
    refine z_bipush (pc := 22) K (v := 10) d_G_putNumber_22 (by decide) ?_
    refine z_irem (pc := 24) K d_G_putNumber_24 (by decide) ?_
    refine z_iadd (pc := 25) K d_G_putNumber_25 ?_
    refine z_i2c (pc := 26) K d_G_putNumber_26 ?_
    refine z_cVv (pc := 27) K 18 (c_G_put _ _ hu) (cwA K 1 k452 k443 k444 k6 k445 q_G_put ⟨Nat.le_of_ble_eq_true rfl, Nat.le_of_ble_eq_true rfl⟩) d_G_putNumber_27 rfl rfl rfl rfl rfl (Nat.le_of_ble_eq_true rfl) ⟨Nat.le_of_ble_eq_true rfl, Nat.le_of_ble_eq_true rfl⟩ ?_
    exact z_retv (pc := 30) ret d_G_putNumber_30 (by rw [g_num, if_pos c3] <;> rfl)
  · refine z_aload_n (pc := 6) K d_G_putNumber_6 rfl ?_
    refine z_bipush (pc := 7) K (v := 48) d_G_putNumber_7 (by decide) ?_
    refine z_iload_n (pc := 9) K d_G_putNumber_9 rfl ?_
    refine z_bipush (pc := 10) K (v := 10) d_G_putNumber_10 (by decide) ?_
    refine z_idiv (pc := 12) K d_G_putNumber_12 (by decide) ?_
    refine z_iadd (pc := 13) K d_G_putNumber_13 ?_
    refine z_i2c (pc := 14) K d_G_putNumber_14 ?_
    refine z_cVv (pc := 15) K 18 (c_G_put _ _ hu) (cwA K 1 k452 k443 k444 k6 k445 q_G_put ⟨Nat.le_of_ble_eq_true rfl, Nat.le_of_ble_eq_true rfl⟩) d_G_putNumber_15 rfl rfl rfl rfl rfl (Nat.le_of_ble_eq_true rfl) ⟨Nat.le_of_ble_eq_true rfl, Nat.le_of_ble_eq_true rfl⟩ ?_
    refine z_aload_n (pc := 18) K d_G_putNumber_18 rfl ?_
    refine z_bipush (pc := 19) K (v := 48) d_G_putNumber_19 (by decide) ?_
    refine z_iload_n (pc := 21) K d_G_putNumber_21 rfl ?_
    refine z_bipush (pc := 22) K (v := 10) d_G_putNumber_22 (by decide) ?_
    refine z_irem (pc := 24) K d_G_putNumber_24 (by decide) ?_
    refine z_iadd (pc := 25) K d_G_putNumber_25 ?_
    refine z_i2c (pc := 26) K d_G_putNumber_26 ?_
    refine z_cVv (pc := 27) K 18 (c_G_put _ _ (ok_gput _ hu)) (cwA K 1 k452 k443 k444 k6 k445 q_G_put ⟨Nat.le_of_ble_eq_true rfl, Nat.le_of_ble_eq_true rfl⟩) d_G_putNumber_27 rfl rfl rfl rfl rfl (Nat.le_of_ble_eq_true rfl) ⟨Nat.le_of_ble_eq_true rfl, Nat.le_of_ble_eq_true rfl⟩ ?_
    exact z_retv (pc := 30) ret d_G_putNumber_30 (by rw [g_num, if_neg c3] <;> rfl)
set_option maxRecDepth 100000 in
set_option maxHeartbeats 4000000 in
theorem c_G_putRuns (u : US) (sx : Int64) (hu : uOk u) : MV l D vwCl (CT cI cJ cC cZ) (CW a cI cJ cC) y_G_putRuns (wA y_G_putRuns prog_5_method_5_code 9 none) { frames := 2, cells := 0, slots := 0, locals := 42 } [.ref (a 18), .long sx] u (wG u (g_putRuns (uG u) sx)) := by
  refine MV.of (cc := prog_5_method_5_code) (nL := 9) (by decide) rfl (Nat.le_of_ble_eq_true rfl) ?_
  intro p e s m below meth c A Q K ret
  refine z_lvE (lv' := [(0, .ref (a 18)), (1, .long sx)]) rfl ?_
  refine z_lload_n (pc := 0) K d_G_putRuns_0 rfl ?_
  refine z_lload_n (pc := 1) K d_G_putRuns_1 rfl ?_
  refine z_iconst (pc := 2) K (v := 1) d_G_putRuns_2 (by decide) ?_
  refine z_lshl (pc := 3) K d_G_putRuns_3 ?_
  refine z_ldc2 (pc := 4) K (v := (-1)) k450 d_G_putRuns_4 ?_
  refine z_lxor (pc := 7) K d_G_putRuns_7 ?_
  refine z_land (pc := 8) K d_G_putRuns_8 ?_
  refine z_lstore_n (pc := 9) K d_G_putRuns_9 rfl (by decide) rfl ?_
  refine z_lload_n (pc := 10) K d_G_putRuns_10 rfl ?_
  refine z_lload_n (pc := 11) K d_G_putRuns_11 rfl ?_
  refine z_iconst (pc := 12) K (v := 1) d_G_putRuns_12 (by decide) ?_
  refine z_lushr (pc := 13) K d_G_putRuns_13 ?_
  refine z_ldc2 (pc := 14) K (v := (-1)) k450 d_G_putRuns_14 ?_
  refine z_lxor (pc := 17) K d_G_putRuns_17 ?_
  refine z_land (pc := 18) K d_G_putRuns_18 ?_
  refine z_lstore (pc := 19) K d_G_putRuns_19 (by decide) rfl ?_
  refine z_iconst (pc := 21) K (v := 1) d_G_putRuns_21 (by decide) ?_
  refine z_istore (pc := 22) K d_G_putRuns_22 (by decide) rfl ?_
  refine z_iconst (pc := 24) K (v := 0) d_G_putRuns_24 (by decide) ?_
  refine z_istore (pc := 25) K d_G_putRuns_25 (by decide) rfl ?_
  have LP : ∀ (n v : Nat) (f : Int32) (g : GS), v + n = 48 → uOk (wG u g) → g_runs (g_starts sx) (g_ends sx) n v f g = g_putRuns (uG u) sx → zW p l e { frames := 2, cells := 0, slots := 0, locals := 42 } s m [.ref (a 18), .long sx].toArray below meth c D vwCl A 9 0 0 Q (CW a cI cJ cC (wG u g)) 27 [(8, .int (nI v)), (7, .int f), (5, .long (g_ends sx)), (3, .long (g_starts sx)), (0, .ref (a 18)), (1, .long sx)] [] := by
    intro n
    induction n with
    | zero =>
      intro v f g hi hg hr
      refine z_iload (pc := 27) K d_G_putRuns_27 rfl ?_
      refine z_bipush (pc := 29) K (v := 48) d_G_putRuns_29 (by decide) ?_
      refine z_icmp_ge (pc := 31) K (tgt := 94) d_G_putRuns_31 (by decide) (fun c31 => ?_) (fun c31 => ?_)
      · exact z_retv (pc := 94) ret d_G_putRuns_94 (by rw [← hr] <;> rfl)
      · exact absurd (nI_le (a := 48) (b := v) (by omega) (by omega)) c31
    | succ n ih =>
      intro v f g hi hg hr
      refine z_iload (pc := 27) K d_G_putRuns_27 rfl ?_
      refine z_bipush (pc := 29) K (v := 48) d_G_putRuns_29 (by decide) ?_
      refine z_icmp_ge (pc := 31) K (tgt := 94) d_G_putRuns_31 (by decide) (fun c31 => ?_) (fun c31 => ?_)
      · exact absurd c31 (nI_ge (a := v) (b := 48) (by omega) (by omega))
      · refine z_lload_n (pc := 34) K d_G_putRuns_34 rfl ?_
        refine z_iload (pc := 35) K d_G_putRuns_35 rfl ?_
        refine z_cSNi (pc := 37) K (c_D_hasVersion _ _ _ ) (cwSN K 2 (own := "DemandTerms$Page") (index := 21) (host := "DemandTerms") (by decide +kernel) k222 k1 k223 q_D_hasVersion.2 ⟨Nat.le_of_ble_eq_true rfl, Nat.le_of_ble_eq_true rfl⟩) d_G_putRuns_37 rfl rfl (Nat.le_of_ble_eq_true rfl) ⟨Nat.le_of_ble_eq_true rfl, Nat.le_of_ble_eq_true rfl⟩ ?_
        refine z_ifb_eq (pc := 40) K (tgt := 66) d_G_putRuns_40 (by decide) (fun c40 => ?_) (fun c40 => ?_)
        · refine z_lload (pc := 66) K d_G_putRuns_66 rfl ?_
          refine z_iload (pc := 68) K d_G_putRuns_68 rfl ?_
          refine z_cSNi (pc := 70) K (c_D_hasVersion _ _ _ ) (cwSN K 2 (own := "DemandTerms$Page") (index := 21) (host := "DemandTerms") (by decide +kernel) k222 k1 k223 q_D_hasVersion.2 ⟨Nat.le_of_ble_eq_true rfl, Nat.le_of_ble_eq_true rfl⟩) d_G_putRuns_70 rfl rfl (Nat.le_of_ble_eq_true rfl) ⟨Nat.le_of_ble_eq_true rfl, Nat.le_of_ble_eq_true rfl⟩ ?_
          refine z_ifb_eq (pc := 73) K (tgt := 88) d_G_putRuns_73 (by decide) (fun c73 => ?_) (fun c73 => ?_)
          · refine z_iinc (pc := 88) K (v := nI (v + 1)) d_G_putRuns_88 0 rfl (inc1 v) (by decide) rfl ?_
            refine z_goto (pc := 91) K (tgt := 27) d_G_putRuns_91 (by decide) ?_
            refine z_lv [0, 1, 2, 3, 4, 5] rfl ?_
            exact ih (v + 1) _ _ (by omega) hg (by rw [← hr]; simp [g_runs, c40, c73])
          · refine z_aload_n (pc := 76) K d_G_putRuns_76 rfl ?_
            refine z_bipush (pc := 77) K (v := 45) d_G_putRuns_77 (by decide) ?_
            refine z_cVv (pc := 79) K 18 (c_G_put _ _ hg) (cwA K 1 k452 k443 k444 k6 k445 q_G_put ⟨Nat.le_of_ble_eq_true rfl, Nat.le_of_ble_eq_true rfl⟩) d_G_putRuns_79 rfl rfl rfl rfl rfl (Nat.le_of_ble_eq_true rfl) ⟨Nat.le_of_ble_eq_true rfl, Nat.le_of_ble_eq_true rfl⟩ ?_
            refine z_aload_n (pc := 82) K d_G_putRuns_82 rfl ?_
            refine z_iload (pc := 83) K d_G_putRuns_83 rfl ?_
            refine z_cVv (pc := 85) K 18 (c_G_putNumber _ _ (ok_gput _ hg)) (cwA K 1 k453 k455 ks12 k6 k456 q_G_putNumber ⟨Nat.le_of_ble_eq_true rfl, Nat.le_of_ble_eq_true rfl⟩) d_G_putRuns_85 rfl rfl rfl rfl rfl (Nat.le_of_ble_eq_true rfl) ⟨Nat.le_of_ble_eq_true rfl, Nat.le_of_ble_eq_true rfl⟩ ?_
            refine z_iinc (pc := 88) K (v := nI (v + 1)) d_G_putRuns_88 0 rfl (inc1 v) (by decide) rfl ?_
            refine z_goto (pc := 91) K (tgt := 27) d_G_putRuns_91 (by decide) ?_
            refine z_lv [0, 1, 2, 3, 4, 5] rfl ?_
            exact ih (v + 1) _ _ (by omega) (ok_gnum _ (ok_gput _ hg)) (by rw [← hr]; simp [g_runs, c40, c73])
        · refine z_iload (pc := 43) K d_G_putRuns_43 rfl ?_
          refine z_if_ne (pc := 45) K (tgt := 54) d_G_putRuns_45 (by decide) (fun c45 => ?_) (fun c45 => ?_)
          · refine z_iconst (pc := 54) K (v := 0) d_G_putRuns_54 (by decide) ?_
            refine z_istore (pc := 55) K d_G_putRuns_55 (by decide) rfl ?_
            refine z_aload_n (pc := 57) K d_G_putRuns_57 rfl ?_
            refine z_iload (pc := 58) K d_G_putRuns_58 rfl ?_
            refine z_cVv (pc := 60) K 18 (c_G_putNumber _ _ hg) (cwA K 1 k453 k455 ks12 k6 k456 q_G_putNumber ⟨Nat.le_of_ble_eq_true rfl, Nat.le_of_ble_eq_true rfl⟩) d_G_putRuns_60 rfl rfl rfl rfl rfl (Nat.le_of_ble_eq_true rfl) ⟨Nat.le_of_ble_eq_true rfl, Nat.le_of_ble_eq_true rfl⟩ ?_
            refine z_goto (pc := 63) K (tgt := 88) d_G_putRuns_63 (by decide) ?_
            refine z_iinc (pc := 88) K (v := nI (v + 1)) d_G_putRuns_88 1 rfl (inc1 v) (by decide) rfl ?_
            refine z_goto (pc := 91) K (tgt := 27) d_G_putRuns_91 (by decide) ?_
            refine z_lv [0, 1, 2, 3, 4, 5] rfl ?_
            exact ih (v + 1) _ _ (by omega) (ok_gnum _ hg) (by rw [← hr]; simp [g_runs, c40, c45])
          · refine z_aload_n (pc := 48) K d_G_putRuns_48 rfl ?_
            refine z_bipush (pc := 49) K (v := 44) d_G_putRuns_49 (by decide) ?_
            refine z_cVv (pc := 51) K 18 (c_G_put _ _ hg) (cwA K 1 k452 k443 k444 k6 k445 q_G_put ⟨Nat.le_of_ble_eq_true rfl, Nat.le_of_ble_eq_true rfl⟩) d_G_putRuns_51 rfl rfl rfl rfl rfl (Nat.le_of_ble_eq_true rfl) ⟨Nat.le_of_ble_eq_true rfl, Nat.le_of_ble_eq_true rfl⟩ ?_
            refine z_iconst (pc := 54) K (v := 0) d_G_putRuns_54 (by decide) ?_
            refine z_istore (pc := 55) K d_G_putRuns_55 (by decide) rfl ?_
            refine z_aload_n (pc := 57) K d_G_putRuns_57 rfl ?_
            refine z_iload (pc := 58) K d_G_putRuns_58 rfl ?_
            refine z_cVv (pc := 60) K 18 (c_G_putNumber _ _ (ok_gput _ hg)) (cwA K 1 k453 k455 ks12 k6 k456 q_G_putNumber ⟨Nat.le_of_ble_eq_true rfl, Nat.le_of_ble_eq_true rfl⟩) d_G_putRuns_60 rfl rfl rfl rfl rfl (Nat.le_of_ble_eq_true rfl) ⟨Nat.le_of_ble_eq_true rfl, Nat.le_of_ble_eq_true rfl⟩ ?_
            refine z_goto (pc := 63) K (tgt := 88) d_G_putRuns_63 (by decide) ?_
            refine z_iinc (pc := 88) K (v := nI (v + 1)) d_G_putRuns_88 1 rfl (inc1 v) (by decide) rfl ?_
            refine z_goto (pc := 91) K (tgt := 27) d_G_putRuns_91 (by decide) ?_
            refine z_lv [0, 1, 2, 3, 4, 5] rfl ?_
            exact ih (v + 1) _ _ (by omega) (ok_gnum _ (ok_gput _ hg)) (by rw [← hr]; simp [g_runs, c40, c45])
  refine z_lv [0, 1, 2, 3, 4, 5] rfl ?_
  exact LP 48 0 1 (uG u) rfl hu rfl
end CM
section CM
variable {l : Launch} {D : va_G} {a : Nat → Nat} {cI cJ cC cZ : ClassId}
set_option maxRecDepth 100000 in
set_option maxHeartbeats 4000000 in
theorem c_D_describe (u : US) (x : Int32) (pl : Int64) (w : Int32) (hu : uOk u) : MI l D vwCl (CT cI cJ cC cZ) (CW a cI cJ cC) y_D_describe (wA y_D_describe prog_1_method_25_code 5 (some .int)) { frames := 3, cells := 0, slots := 0, locals := 65 } [.ref (a 0), .int x, .long pl, .int w] u (d_desc u x pl w) (u) := by
  refine MI.of (cc := prog_1_method_25_code) (nL := 5) (by decide) rfl (Nat.le_of_ble_eq_true rfl) ?_
  intro p e s m below meth c A Q K ret
  refine z_lvE (lv' := [(0, .ref (a 0)), (1, .int x), (2, .long pl), (4, .int w)]) rfl ?_
  refine z_iload (pc := 0) K d_D_describe_0 rfl ?_
  by_cases h0 : w = 0
  · refine z_tableIn (pc := 2) K (tgt := 28) d_D_describe_2 (by rw [h0]; decide) (by rw [h0]; decide) (by rw [h0]; rfl) (by decide) ?_
    refine z_iload_n (pc := 28) K d_D_describe_28 rfl ?_
    exact z_reti (pc := 29) ret d_D_describe_29 (by simp [d_desc, h0]) rfl
  · by_cases h1 : w = 1
    · refine z_tableIn (pc := 2) K (tgt := 30) d_D_describe_2 (by rw [h1]; decide) (by rw [h1]; decide) (by rw [h1]; rfl) (by decide) ?_
      refine z_lload_n (pc := 30) K d_D_describe_30 rfl ?_
      refine z_cSi (pc := 31) K (c_D_isWanted _ _ ) (cwSA K 1 k194 k195 k1 k196 q_D_isWanted.2 ⟨Nat.le_of_ble_eq_true rfl, Nat.le_of_ble_eq_true rfl⟩) d_D_describe_31 rfl rfl (Nat.le_of_ble_eq_true rfl) ⟨Nat.le_of_ble_eq_true rfl, Nat.le_of_ble_eq_true rfl⟩ ?_
      refine z_ifb_eq (pc := 34) K (tgt := 41) d_D_describe_34 (by decide) (fun c34 => ?_) (fun c34 => ?_)
      · refine z_iconst (pc := 41) K (v := 0) d_D_describe_41 (by decide) ?_
        exact z_reti (pc := 42) ret d_D_describe_42 (by simp [d_desc, bI, h0, h1, c34]) rfl
      · refine z_iconst (pc := 37) K (v := 1) d_D_describe_37 (by decide) ?_
        refine z_goto (pc := 38) K (tgt := 42) d_D_describe_38 (by decide) ?_
        exact z_reti (pc := 42) ret d_D_describe_42 (by simp [d_desc, bI, h0, h1, c34]) rfl
    · by_cases h2 : w = 2
      · refine z_tableIn (pc := 2) K (tgt := 43) d_D_describe_2 (by rw [h2]; decide) (by rw [h2]; decide) (by rw [h2]; rfl) (by decide) ?_
        refine z_aload_n (pc := 43) K d_D_describe_43 rfl ?_
        refine z_get (pc := 44) K (ref := "DemandTerms") d_D_describe_44 hi_D 0 rfl rfl 0 (by decide) k110 rfl rfl ?_
        refine z_iload_n (pc := 47) K d_D_describe_47 rfl ?_
        refine z_lload_n (pc := 48) K d_D_describe_48 rfl ?_
        refine z_cVl (pc := 49) K 1 (c_N_setOf _ _ _ hu) (cwA K 2 k198 k199 k200 k2 k201 q_N_setOf ⟨Nat.le_of_ble_eq_true rfl, Nat.le_of_ble_eq_true rfl⟩) d_D_describe_49 rfl rfl rfl rfl rfl (Nat.le_of_ble_eq_true rfl) ⟨Nat.le_of_ble_eq_true rfl, Nat.le_of_ble_eq_true rfl⟩ ?_
        refine z_cSi (pc := 52) K (c_JL_bitCount _ _ ) (cwSA K 1 k203 k204 k8 k205 q_JL_bitCount.2 ⟨Nat.le_of_ble_eq_true rfl, Nat.le_of_ble_eq_true rfl⟩) d_D_describe_52 rfl rfl (Nat.le_of_ble_eq_true rfl) ⟨Nat.le_of_ble_eq_true rfl, Nat.le_of_ble_eq_true rfl⟩ ?_
        exact z_reti (pc := 55) ret d_D_describe_55 (by simp [d_desc, h0, h1, h2]) rfl
      · refine z_tableOut (pc := 2) K (tgt := 56) d_D_describe_2 (sw3 h0 h1 h2) (by decide) ?_
        refine z_iconst (pc := 56) K (v := (-1)) d_D_describe_56 (by decide) ?_
        exact z_reti (pc := 57) ret d_D_describe_57 (by simp [d_desc, h0, h1, h2]) rfl
set_option maxRecDepth 100000 in
set_option maxHeartbeats 4000000 in
theorem c_D_isDerived (u : US) (x : Int32) (hu : uOk u) : MI l D vwCl (CT cI cJ cC cZ) (CW a cI cJ cC) y_D_isDerived (wA y_D_isDerived prog_1_method_26_code 4 (some .boolean)) { frames := 2, cells := 0, slots := 0, locals := 43 } [.ref (a 0), .int x] u (bI (d_isD u x)) (u) := by
  refine MI.ofZ (cc := prog_1_method_26_code) (nL := 4) (by decide) rfl (Nat.le_of_ble_eq_true rfl) ?_
  intro p e s m below meth c A Q K ret
  refine z_lvE (lv' := [(0, .ref (a 0)), (1, .int x)]) rfl ?_
  have hb := hu.2.2.2.1
  refine z_aload_n (pc := 0) K d_D_isDerived_0 rfl ?_
  refine z_get (pc := 1) K (ref := "DemandTerms") d_D_isDerived_1 hi_D 0 rfl rfl 2 (by decide) k112 rfl rfl ?_
  refine z_iload_n (pc := 4) K d_D_isDerived_4 rfl ?_
  refine z_cVi (pc := 5) K 6 (c_R_versionOf _ _ hu) (cwA K 1 k252 k253 k254 k4 k255 q_R_versionOf ⟨Nat.le_of_ble_eq_true rfl, Nat.le_of_ble_eq_true rfl⟩) d_D_isDerived_5 rfl rfl rfl rfl rfl (Nat.le_of_ble_eq_true rfl) ⟨Nat.le_of_ble_eq_true rfl, Nat.le_of_ble_eq_true rfl⟩ ?_
  refine z_istore_n (pc := 8) K d_D_isDerived_8 rfl (by decide) rfl ?_
  refine z_iconst (pc := 9) K (v := 0) d_D_isDerived_9 (by decide) ?_
  refine z_istore_n (pc := 10) K d_D_isDerived_10 rfl (by decide) rfl ?_
  have LP : ∀ (n i : Nat), i + n = (uC u).1 → fnd (fun k => if r_alike (uR u) (c_src (uC u) (nI k)) x = true then s_hv (c_run (uC u) (nI k)) (r_vr (uR u) x) else false) n i = fnd (fun k => if r_alike (uR u) (c_src (uC u) (nI k)) x = true then s_hv (c_run (uC u) (nI k)) (r_vr (uR u) x) else false) (uC u).1 0 → zW p l e { frames := 2, cells := 0, slots := 0, locals := 43 } s m [.ref (a 0), .int x].toArray below meth c D vwCl A 4 0 0 Q (CW a cI cJ cC u) 11 [(3, .int (nI i)), (2, .int (r_vr (uR u) x)), (0, .ref (a 0)), (1, .int x)] [] := by
    intro n
    induction n with
    | zero =>
      intro i hi hf
      refine z_iload_n (pc := 11) K d_D_isDerived_11 rfl ?_
      refine z_aload_n (pc := 12) K d_D_isDerived_12 rfl ?_
      refine z_get (pc := 13) K (ref := "DemandTerms") d_D_isDerived_13 hi_D 0 rfl rfl 3 (by decide) k113 rfl rfl ?_
      refine z_cVi (pc := 16) K 12 (c_C_size _ ) (cwA K 0 k232 k233 k234 k5 k235 q_C_size ⟨Nat.le_of_ble_eq_true rfl, Nat.le_of_ble_eq_true rfl⟩) d_D_isDerived_16 rfl rfl rfl rfl rfl (Nat.le_of_ble_eq_true rfl) ⟨Nat.le_of_ble_eq_true rfl, Nat.le_of_ble_eq_true rfl⟩ ?_
      refine z_icmp_ge (pc := 19) K (tgt := 64) d_D_isDerived_19 (by decide) (fun c19 => ?_) (fun c19 => ?_)
      · refine z_iconst (pc := 64) K (v := 0) d_D_isDerived_64 (by decide) ?_
        refine z_eqi (y := bI false) rfl ?_
        exact z_reti (pc := 65) ret d_D_isDerived_65 (by rw [d_isD, ← hf] <;> rfl) rfl
      · exact absurd (nI_le (a := (uC u).1) (b := i) (by omega) (by omega)) c19
    | succ n ih =>
      intro i hi hf
      refine z_iload_n (pc := 11) K d_D_isDerived_11 rfl ?_
      refine z_aload_n (pc := 12) K d_D_isDerived_12 rfl ?_
      refine z_get (pc := 13) K (ref := "DemandTerms") d_D_isDerived_13 hi_D 0 rfl rfl 3 (by decide) k113 rfl rfl ?_
      refine z_cVi (pc := 16) K 12 (c_C_size _ ) (cwA K 0 k232 k233 k234 k5 k235 q_C_size ⟨Nat.le_of_ble_eq_true rfl, Nat.le_of_ble_eq_true rfl⟩) d_D_isDerived_16 rfl rfl rfl rfl rfl (Nat.le_of_ble_eq_true rfl) ⟨Nat.le_of_ble_eq_true rfl, Nat.le_of_ble_eq_true rfl⟩ ?_
      refine z_icmp_ge (pc := 19) K (tgt := 64) d_D_isDerived_19 (by decide) (fun c19 => ?_) (fun c19 => ?_)
      · exact absurd c19 (nI_ge (a := i) (b := (uC u).1) (by omega) (by omega))
      · refine z_aload_n (pc := 22) K d_D_isDerived_22 rfl ?_
        refine z_get (pc := 23) K (ref := "DemandTerms") d_D_isDerived_23 hi_D 0 rfl rfl 2 (by decide) k112 rfl rfl ?_
        refine z_aload_n (pc := 26) K d_D_isDerived_26 rfl ?_
        refine z_get (pc := 27) K (ref := "DemandTerms") d_D_isDerived_27 hi_D 0 rfl rfl 3 (by decide) k113 rfl rfl ?_
        refine z_iload_n (pc := 30) K d_D_isDerived_30 rfl ?_
        refine z_cVi (pc := 31) K 12 (c_C_sourceOf _ _ hu) (cwA K 1 k256 k257 k258 k5 k259 q_C_sourceOf ⟨Nat.le_of_ble_eq_true rfl, Nat.le_of_ble_eq_true rfl⟩) d_D_isDerived_31 rfl rfl rfl rfl rfl (Nat.le_of_ble_eq_true rfl) ⟨Nat.le_of_ble_eq_true rfl, Nat.le_of_ble_eq_true rfl⟩ ?_
        refine z_iload_n (pc := 34) K d_D_isDerived_34 rfl ?_
        refine z_cVi (pc := 35) K 6 (c_R_alike _ _ _ hu) (cwA K 2 k264 k265 k266 k4 k267 q_R_alike ⟨Nat.le_of_ble_eq_true rfl, Nat.le_of_ble_eq_true rfl⟩) d_D_isDerived_35 rfl rfl rfl rfl rfl (Nat.le_of_ble_eq_true rfl) ⟨Nat.le_of_ble_eq_true rfl, Nat.le_of_ble_eq_true rfl⟩ ?_
        refine z_ifb_eq (pc := 38) K (tgt := 58) d_D_isDerived_38 (by decide) (fun c38 => ?_) (fun c38 => ?_)
        · refine z_iinc (pc := 58) K (v := nI (i + 1)) d_D_isDerived_58 0 rfl (inc1 i) (by decide) rfl ?_
          refine z_goto (pc := 61) K (tgt := 11) d_D_isDerived_61 (by decide) ?_
          refine z_lv [0, 1, 2, 3] rfl ?_
          exact ih (i + 1) (by omega) (by rw [← hf]; simp [fnd, c38])
        · refine z_aload_n (pc := 41) K d_D_isDerived_41 rfl ?_
          refine z_get (pc := 42) K (ref := "DemandTerms") d_D_isDerived_42 hi_D 0 rfl rfl 3 (by decide) k113 rfl rfl ?_
          refine z_iload_n (pc := 45) K d_D_isDerived_45 rfl ?_
          refine z_cVl (pc := 46) K 12 (c_C_runOf _ _ hu) (cwA K 1 k268 k269 k270 k5 k271 q_C_runOf ⟨Nat.le_of_ble_eq_true rfl, Nat.le_of_ble_eq_true rfl⟩) d_D_isDerived_46 rfl rfl rfl rfl rfl (Nat.le_of_ble_eq_true rfl) ⟨Nat.le_of_ble_eq_true rfl, Nat.le_of_ble_eq_true rfl⟩ ?_
          refine z_iload_n (pc := 49) K d_D_isDerived_49 rfl ?_
          refine z_cSi (pc := 50) K (c_D_hasVersion _ _ _ ) (cwSA K 2 k272 k222 k1 k223 q_D_hasVersion.2 ⟨Nat.le_of_ble_eq_true rfl, Nat.le_of_ble_eq_true rfl⟩) d_D_isDerived_50 rfl rfl (Nat.le_of_ble_eq_true rfl) ⟨Nat.le_of_ble_eq_true rfl, Nat.le_of_ble_eq_true rfl⟩ ?_
          refine z_ifb_eq (pc := 53) K (tgt := 58) d_D_isDerived_53 (by decide) (fun c53 => ?_) (fun c53 => ?_)
          · refine z_iinc (pc := 58) K (v := nI (i + 1)) d_D_isDerived_58 0 rfl (inc1 i) (by decide) rfl ?_
            refine z_goto (pc := 61) K (tgt := 11) d_D_isDerived_61 (by decide) ?_
            refine z_lv [0, 1, 2, 3] rfl ?_
            exact ih (i + 1) (by omega) (by rw [← hf]; simp [fnd, c38, c53])
          · refine z_iconst (pc := 56) K (v := 1) d_D_isDerived_56 (by decide) ?_
            refine z_eqi (y := bI true) rfl ?_
            exact z_reti (pc := 57) ret d_D_isDerived_57 (by rw [d_isD, ← hf]; simp [fnd, fI, c38, c53]) rfl
  refine z_lv [0, 1, 2, 3] rfl ?_
  exact LP (uC u).1 0 (by omega) rfl
set_option maxRecDepth 100000 in
set_option maxHeartbeats 4000000 in
theorem c_D_placesIn (u : US) (k : Int32) (x : Int32) (hu : uOk u) : ML l D vwCl (CT cI cJ cC cZ) (CW a cI cJ cC) y_D_placesIn (wA y_D_placesIn prog_1_method_29_code 3 (some .long)) { frames := 3, cells := 0, slots := 0, locals := 65 } [.ref (a 0), .int k, .int x] u (d_pin u k x) (u) := by
  refine ML.of (cc := prog_1_method_29_code) (nL := 3) (by decide) rfl (Nat.le_of_ble_eq_true rfl) ?_
  intro p e s m below meth c A Q K ret
  refine z_lvE (lv' := [(0, .ref (a 0)), (1, .int k), (2, .int x)]) rfl ?_
  refine z_aload_n (pc := 0) K d_D_placesIn_0 rfl ?_
  refine z_get (pc := 1) K (ref := "DemandTerms") d_D_placesIn_1 hi_D 0 rfl rfl 3 (by decide) k113 rfl rfl ?_
  refine z_iload_n (pc := 4) K d_D_placesIn_4 rfl ?_
  refine z_iload_n (pc := 5) K d_D_placesIn_5 rfl ?_
  refine z_cVi (pc := 6) K 12 (c_C_holds _ _ _ hu) (cwA K 2 k321 k322 k323 k5 k324 q_C_holds ⟨Nat.le_of_ble_eq_true rfl, Nat.le_of_ble_eq_true rfl⟩) d_D_placesIn_6 rfl rfl rfl rfl rfl (Nat.le_of_ble_eq_true rfl) ⟨Nat.le_of_ble_eq_true rfl, Nat.le_of_ble_eq_true rfl⟩ ?_
  refine z_ifb_eq (pc := 9) K (tgt := 24) d_D_placesIn_9 (by decide) (fun c9 => ?_) (fun c9 => ?_)
  · refine z_aload_n (pc := 24) K d_D_placesIn_24 rfl ?_
    refine z_get (pc := 25) K (ref := "DemandTerms") d_D_placesIn_25 hi_D 0 rfl rfl 0 (by decide) k110 rfl rfl ?_
    refine z_iload_n (pc := 28) K d_D_placesIn_28 rfl ?_
    refine z_cVl (pc := 29) K 1 (c_N_everywhere _ _ hu) (cwA K 1 k138 k139 k140 k2 k141 q_N_everywhere ⟨Nat.le_of_ble_eq_true rfl, Nat.le_of_ble_eq_true rfl⟩) d_D_placesIn_29 rfl rfl rfl rfl rfl (Nat.le_of_ble_eq_true rfl) ⟨Nat.le_of_ble_eq_true rfl, Nat.le_of_ble_eq_true rfl⟩ ?_
    exact z_retl (pc := 32) ret d_D_placesIn_32 (by simp [d_pin, c9]) rfl
  · refine z_aload_n (pc := 12) K d_D_placesIn_12 rfl ?_
    refine z_get (pc := 13) K (ref := "DemandTerms") d_D_placesIn_13 hi_D 0 rfl rfl 3 (by decide) k113 rfl rfl ?_
    refine z_iload_n (pc := 16) K d_D_placesIn_16 rfl ?_
    refine z_iload_n (pc := 17) K d_D_placesIn_17 rfl ?_
    refine z_cVl (pc := 18) K 12 (c_C_placesOf _ _ _ hu) (cwA K 2 k333 k334 k335 k5 k336 q_C_placesOf ⟨Nat.le_of_ble_eq_true rfl, Nat.le_of_ble_eq_true rfl⟩) d_D_placesIn_18 rfl rfl rfl rfl rfl (Nat.le_of_ble_eq_true rfl) ⟨Nat.le_of_ble_eq_true rfl, Nat.le_of_ble_eq_true rfl⟩ ?_
    refine z_goto (pc := 21) K (tgt := 32) d_D_placesIn_21 (by decide) ?_
    exact z_retl (pc := 32) ret d_D_placesIn_32 (by simp [d_pin, c9]) rfl
set_option maxRecDepth 100000 in
set_option maxHeartbeats 4000000 in
theorem c_D_putPart (u : US) (k : Int32) (x : Int32) (pl : Int64) (hu : uOk u) : MV l D vwCl (CT cI cJ cC cZ) (CW a cI cJ cC) y_D_putPart (wA y_D_putPart prog_1_method_28_code 5 none) { frames := 2, cells := 0, slots := 0, locals := 45 } [.ref (a 0), .int k, .int x, .long pl] u (d_pp u k x pl) := by
  refine MV.of (cc := prog_1_method_28_code) (nL := 5) (by decide) rfl (Nat.le_of_ble_eq_true rfl) ?_
  intro p e s m below meth c A Q K ret
  refine z_lvE (lv' := [(0, .ref (a 0)), (1, .int k), (2, .int x), (3, .long pl)]) rfl ?_
  refine z_lload_n (pc := 0) K d_D_putPart_0 rfl ?_
  refine z_aload_n (pc := 1) K d_D_putPart_1 rfl ?_
  refine z_get (pc := 2) K (ref := "DemandTerms") d_D_putPart_2 hi_D 0 rfl rfl 0 (by decide) k110 rfl rfl ?_
  refine z_iload_n (pc := 5) K d_D_putPart_5 rfl ?_
  refine z_cVl (pc := 6) K 1 (c_N_everywhere _ _ hu) (cwA K 1 k138 k139 k140 k2 k141 q_N_everywhere ⟨Nat.le_of_ble_eq_true rfl, Nat.le_of_ble_eq_true rfl⟩) d_D_putPart_6 rfl rfl rfl rfl rfl (Nat.le_of_ble_eq_true rfl) ⟨Nat.le_of_ble_eq_true rfl, Nat.le_of_ble_eq_true rfl⟩ ?_
  refine z_lcmp (pc := 9) K d_D_putPart_9 ?_
  refine z_ifl_eq (pc := 10) K (tgt := 23) d_D_putPart_10 (by decide) (fun c10 => ?_) (fun c10 => ?_)
  · exact z_retv (pc := 23) ret d_D_putPart_23 (by rw [d_pp, d_ppC, if_pos c10] <;> rfl)
  · refine z_aload_n (pc := 13) K d_D_putPart_13 rfl ?_
    refine z_get (pc := 14) K (ref := "DemandTerms") d_D_putPart_14 hi_D 0 rfl rfl 3 (by decide) k113 rfl rfl ?_
    refine z_iload_n (pc := 17) K d_D_putPart_17 rfl ?_
    refine z_iload_n (pc := 18) K d_D_putPart_18 rfl ?_
    refine z_lload_n (pc := 19) K d_D_putPart_19 rfl ?_
    refine z_cVv (pc := 20) K 12 (c_C_put _ _ _ _ hu) (cwA K 3 k297 k298 k299 k5 k300 q_C_put ⟨Nat.le_of_ble_eq_true rfl, Nat.le_of_ble_eq_true rfl⟩) d_D_putPart_20 rfl rfl rfl rfl rfl (Nat.le_of_ble_eq_true rfl) ⟨Nat.le_of_ble_eq_true rfl, Nat.le_of_ble_eq_true rfl⟩ ?_
    exact z_retv (pc := 23) ret d_D_putPart_23 (by rw [d_pp, d_ppC, if_neg c10] <;> rfl)
set_option maxRecDepth 100000 in
set_option maxHeartbeats 4000000 in
theorem c_D_narrowChoice (u : US) (x : Int32) (pl : Int64) (hu : uOk u) : MV l D vwCl (CT cI cJ cC cZ) (CW a cI cJ cC) y_D_narrowChoice (wA y_D_narrowChoice prog_1_method_30_code 4 none) { frames := 1, cells := 0, slots := 0, locals := 21 } [.ref (a 0), .int x, .long pl] u (d_nar u x pl) := by
  refine MV.of (cc := prog_1_method_30_code) (nL := 4) (by decide) rfl (Nat.le_of_ble_eq_true rfl) ?_
  intro p e s m below meth c A Q K ret
  refine z_lvE (lv' := [(0, .ref (a 0)), (1, .int x), (2, .long pl)]) rfl ?_
  refine z_aload_n (pc := 0) K d_D_narrowChoice_0 rfl ?_
  refine z_get (pc := 1) K (ref := "DemandTerms") d_D_narrowChoice_1 hi_D 0 rfl rfl 0 (by decide) k110 rfl rfl ?_
  refine z_iload_n (pc := 4) K d_D_narrowChoice_4 rfl ?_
  refine z_cVi (pc := 5) K 1 (c_N_has _ _ ) (cwA K 1 k150 k143 k144 k2 k145 q_N_has ⟨Nat.le_of_ble_eq_true rfl, Nat.le_of_ble_eq_true rfl⟩) d_D_narrowChoice_5 rfl rfl rfl rfl rfl (Nat.le_of_ble_eq_true rfl) ⟨Nat.le_of_ble_eq_true rfl, Nat.le_of_ble_eq_true rfl⟩ ?_
  refine z_ifb_eq (pc := 8) K (tgt := 21) d_D_narrowChoice_8 (by decide) (fun c8 => ?_) (fun c8 => ?_)
  · exact z_retv (pc := 21) ret d_D_narrowChoice_21 (by rw [d_nar, d_narH, if_neg (by rw [c8]; decide)] <;> rfl)
  · refine z_aload_n (pc := 11) K d_D_narrowChoice_11 rfl ?_
    refine z_get (pc := 12) K (ref := "DemandTerms") d_D_narrowChoice_12 hi_D 0 rfl rfl 4 (by decide) k114 rfl rfl ?_
    refine z_iload_n (pc := 15) K d_D_narrowChoice_15 rfl ?_
    refine z_dup2 (pc := 16) K d_D_narrowChoice_16 rfl rfl ?_
    refine z_lald (pc := 17) K d_D_narrowChoice_17 17 1 rfl rfl (hasIx_in c8 hu.1 (by decide)) ?_
    refine z_lload_n (pc := 18) K d_D_narrowChoice_18 rfl ?_
    refine z_land (pc := 19) K d_D_narrowChoice_19 ?_
    refine z_last (pc := 20) K (ws' := (CW a cI cJ cC (wH u (vp_updL (uH u) x.toNatClampNeg (uH u x.toNatClampNeg &&& pl))))) d_D_narrowChoice_20 17 1 rfl rfl (hasIx_in c8 hu.1 (by decide)) rfl ?_
    exact z_retv (pc := 21) ret d_D_narrowChoice_21 (by rw [d_nar, d_narH, if_pos c8] <;> rfl)
set_option maxRecDepth 100000 in
set_option maxHeartbeats 4000000 in
theorem c_D_relationToChoice (u : US) (k : Int32) (x : Int32) (hu : uOk u) : MI l D vwCl (CT cI cJ cC cZ) (CW a cI cJ cC) y_D_relationToChoice (wA y_D_relationToChoice prog_1_method_31_code 3 (some .int)) { frames := 3, cells := 0, slots := 0, locals := 65 } [.ref (a 0), .int k, .int x] u (d_rel u k x) (u) := by
  refine MI.of (cc := prog_1_method_31_code) (nL := 3) (by decide) rfl (Nat.le_of_ble_eq_true rfl) ?_
  intro p e s m below meth c A Q K ret
  refine z_lvE (lv' := [(0, .ref (a 0)), (1, .int k), (2, .int x)]) rfl ?_
  refine z_aload_n (pc := 0) K d_D_relationToChoice_0 rfl ?_
  refine z_get (pc := 1) K (ref := "DemandTerms") d_D_relationToChoice_1 hi_D 0 rfl rfl 0 (by decide) k110 rfl rfl ?_
  refine z_iload_n (pc := 4) K d_D_relationToChoice_4 rfl ?_
  refine z_cVi (pc := 5) K 1 (c_N_has _ _ ) (cwA K 1 k150 k143 k144 k2 k145 q_N_has ⟨Nat.le_of_ble_eq_true rfl, Nat.le_of_ble_eq_true rfl⟩) d_D_relationToChoice_5 rfl rfl rfl rfl rfl (Nat.le_of_ble_eq_true rfl) ⟨Nat.le_of_ble_eq_true rfl, Nat.le_of_ble_eq_true rfl⟩ ?_
  refine z_ifb_eq (pc := 8) K (tgt := 32) d_D_relationToChoice_8 (by decide) (fun c8 => ?_) (fun c8 => ?_)
  · refine z_iconst (pc := 32) K (v := 0) d_D_relationToChoice_32 (by decide) ?_
    exact z_reti (pc := 33) ret d_D_relationToChoice_33 (by simp [d_rel, c8]) rfl
  · refine z_aload_n (pc := 11) K d_D_relationToChoice_11 rfl ?_
    refine z_get (pc := 12) K (ref := "DemandTerms") d_D_relationToChoice_12 hi_D 0 rfl rfl 4 (by decide) k114 rfl rfl ?_
    refine z_iload_n (pc := 15) K d_D_relationToChoice_15 rfl ?_
    refine z_lald (pc := 16) K d_D_relationToChoice_16 17 1 rfl rfl (hasIx_in c8 hu.1 (by decide)) ?_
    refine z_aload_n (pc := 17) K d_D_relationToChoice_17 rfl ?_
    refine z_get (pc := 18) K (ref := "DemandTerms") d_D_relationToChoice_18 hi_D 0 rfl rfl 3 (by decide) k113 rfl rfl ?_
    refine z_iload_n (pc := 21) K d_D_relationToChoice_21 rfl ?_
    refine z_iload_n (pc := 22) K d_D_relationToChoice_22 rfl ?_
    refine z_cVl (pc := 23) K 12 (c_C_placesOf _ _ _ hu) (cwA K 2 k333 k334 k335 k5 k336 q_C_placesOf ⟨Nat.le_of_ble_eq_true rfl, Nat.le_of_ble_eq_true rfl⟩) d_D_relationToChoice_23 rfl rfl rfl rfl rfl (Nat.le_of_ble_eq_true rfl) ⟨Nat.le_of_ble_eq_true rfl, Nat.le_of_ble_eq_true rfl⟩ ?_
    refine z_cSi (pc := 26) K (c_D_relation _ _ _ ) (cwSA K 2 k182 k183 k1 k184 q_D_relation.2 ⟨Nat.le_of_ble_eq_true rfl, Nat.le_of_ble_eq_true rfl⟩) d_D_relationToChoice_26 rfl rfl (Nat.le_of_ble_eq_true rfl) ⟨Nat.le_of_ble_eq_true rfl, Nat.le_of_ble_eq_true rfl⟩ ?_
    refine z_goto (pc := 29) K (tgt := 33) d_D_relationToChoice_29 (by decide) ?_
    exact z_reti (pc := 33) ret d_D_relationToChoice_33 (by simp [d_rel, c8]) rfl
set_option maxRecDepth 100000 in
set_option maxHeartbeats 4000000 in
theorem c_D_stateOf (u : US) (k : Int32) (hu : uOk u) : MI l D vwCl (CT cI cJ cC cZ) (CW a cI cJ cC) y_D_stateOf (wA y_D_stateOf prog_1_method_32_code 5 (some .int)) { frames := 4, cells := 0, slots := 0, locals := 87 } [.ref (a 0), .int k] u (d_st u k) (u) := by
  refine MI.of (cc := prog_1_method_32_code) (nL := 5) (by decide) rfl (Nat.le_of_ble_eq_true rfl) ?_
  intro p e s m below meth c A Q K ret
  refine z_lvE (lv' := [(0, .ref (a 0)), (1, .int k)]) rfl ?_
  have hb := hu.1
  refine z_iconst (pc := 0) K (v := 0) d_D_stateOf_0 (by decide) ?_
  refine z_istore_n (pc := 1) K d_D_stateOf_1 rfl (by decide) rfl ?_
  refine z_iconst (pc := 2) K (v := 0) d_D_stateOf_2 (by decide) ?_
  refine z_istore_n (pc := 3) K d_D_stateOf_3 rfl (by decide) rfl ?_
  have LP : ∀ (n i o : Nat), i + n = (uN u).1 → o ≤ i → d_stl u k n i o = d_st u k → zW p l e { frames := 4, cells := 0, slots := 0, locals := 87 } s m [.ref (a 0), .int k].toArray below meth c D vwCl A 5 0 0 Q (CW a cI cJ cC u) 4 [(3, .int (nI i)), (2, .int (nI o)), (0, .ref (a 0)), (1, .int k)] [] := by
    intro n
    induction n with
    | zero =>
      intro i o hi ho hf
      refine z_iload_n (pc := 4) K d_D_stateOf_4 rfl ?_
      refine z_aload_n (pc := 5) K d_D_stateOf_5 rfl ?_
      refine z_get (pc := 6) K (ref := "DemandTerms") d_D_stateOf_6 hi_D 0 rfl rfl 0 (by decide) k110 rfl rfl ?_
      refine z_cVi (pc := 9) K 1 (c_N_size _ ) (cwA K 0 k325 k326 k327 k2 k328 q_N_size ⟨Nat.le_of_ble_eq_true rfl, Nat.le_of_ble_eq_true rfl⟩) d_D_stateOf_9 rfl rfl rfl rfl rfl (Nat.le_of_ble_eq_true rfl) ⟨Nat.le_of_ble_eq_true rfl, Nat.le_of_ble_eq_true rfl⟩ ?_
      refine z_icmp_ge (pc := 12) K (tgt := 57) d_D_stateOf_12 (by decide) (fun c12 => ?_) (fun c12 => ?_)
      · refine z_iload_n (pc := 57) K d_D_stateOf_57 rfl ?_
        refine z_if_ne (pc := 58) K (tgt := 63) d_D_stateOf_58 (by decide) (fun c58 => ?_) (fun c58 => ?_)
        · refine z_iload_n (pc := 63) K d_D_stateOf_63 rfl ?_
          refine z_iconst (pc := 64) K (v := 1) d_D_stateOf_64 (by decide) ?_
          refine z_icmp_ne (pc := 65) K (tgt := 72) d_D_stateOf_65 (by decide) (fun c65 => ?_) (fun c65 => ?_)
          · refine z_iconst (pc := 72) K (v := 0) d_D_stateOf_72 (by decide) ?_
            exact z_reti (pc := 73) ret d_D_stateOf_73 (by rw [← hf, d_stl, if_neg (fun z => c58 (by rw [z] <;> rfl)), if_neg (fun z => c65 (by rw [z] <;> rfl))] <;> rfl) rfl
          · refine z_iconst (pc := 68) K (v := 2) d_D_stateOf_68 (by decide) ?_
            refine z_goto (pc := 69) K (tgt := 73) d_D_stateOf_69 (by decide) ?_
            exact z_reti (pc := 73) ret d_D_stateOf_73 (by rw [← hf, d_stl, if_neg (fun z => c58 (by rw [z] <;> rfl)), if_pos (nI1 (by omega) c65)] <;> rfl) rfl
        · refine z_iconst (pc := 61) K (v := 1) d_D_stateOf_61 (by decide) ?_
          exact z_reti (pc := 62) ret d_D_stateOf_62 (by rw [← hf, d_stl, if_pos (nIz (by omega) c58)] <;> rfl) rfl
      · exact absurd (nI_le (a := (uN u).1) (b := i) (by omega) (by omega)) c12
    | succ n ih =>
      intro i o hi ho hf
      refine z_iload_n (pc := 4) K d_D_stateOf_4 rfl ?_
      refine z_aload_n (pc := 5) K d_D_stateOf_5 rfl ?_
      refine z_get (pc := 6) K (ref := "DemandTerms") d_D_stateOf_6 hi_D 0 rfl rfl 0 (by decide) k110 rfl rfl ?_
      refine z_cVi (pc := 9) K 1 (c_N_size _ ) (cwA K 0 k325 k326 k327 k2 k328 q_N_size ⟨Nat.le_of_ble_eq_true rfl, Nat.le_of_ble_eq_true rfl⟩) d_D_stateOf_9 rfl rfl rfl rfl rfl (Nat.le_of_ble_eq_true rfl) ⟨Nat.le_of_ble_eq_true rfl, Nat.le_of_ble_eq_true rfl⟩ ?_
      refine z_icmp_ge (pc := 12) K (tgt := 57) d_D_stateOf_12 (by decide) (fun c12 => ?_) (fun c12 => ?_)
      · exact absurd c12 (nI_ge (a := i) (b := (uN u).1) (by omega) (by omega))
      · refine z_aload_n (pc := 15) K d_D_stateOf_15 rfl ?_
        refine z_get (pc := 16) K (ref := "DemandTerms") d_D_stateOf_16 hi_D 0 rfl rfl 3 (by decide) k113 rfl rfl ?_
        refine z_iload_n (pc := 19) K d_D_stateOf_19 rfl ?_
        refine z_iload_n (pc := 20) K d_D_stateOf_20 rfl ?_
        refine z_cVi (pc := 21) K 12 (c_C_holds _ _ _ hu) (cwA K 2 k321 k322 k323 k5 k324 q_C_holds ⟨Nat.le_of_ble_eq_true rfl, Nat.le_of_ble_eq_true rfl⟩) d_D_stateOf_21 rfl rfl rfl rfl rfl (Nat.le_of_ble_eq_true rfl) ⟨Nat.le_of_ble_eq_true rfl, Nat.le_of_ble_eq_true rfl⟩ ?_
        refine z_ifb_eq (pc := 24) K (tgt := 51) d_D_stateOf_24 (by decide) (fun c24 => ?_) (fun c24 => ?_)
        · refine z_iinc (pc := 51) K (v := nI (i + 1)) d_D_stateOf_51 0 rfl (inc1 i) (by decide) rfl ?_
          refine z_goto (pc := 54) K (tgt := 4) d_D_stateOf_54 (by decide) ?_
          refine z_lv [0, 1, 2, 3] rfl ?_
          exact ih (i + 1) _ (by omega) (by omega) (by rw [← hf]; simp [d_stl, c24])
        · refine z_aload_n (pc := 27) K d_D_stateOf_27 rfl ?_
          refine z_iload_n (pc := 28) K d_D_stateOf_28 rfl ?_
          refine z_iload_n (pc := 29) K d_D_stateOf_29 rfl ?_
          refine z_cVi (pc := 30) K 0 (c_D_relationToChoice _ _ _ hu) (cwA K 2 k393 k395 ks7 k1 k396 q_D_relationToChoice ⟨Nat.le_of_ble_eq_true rfl, Nat.le_of_ble_eq_true rfl⟩) d_D_stateOf_30 rfl rfl rfl rfl rfl (Nat.le_of_ble_eq_true rfl) ⟨Nat.le_of_ble_eq_true rfl, Nat.le_of_ble_eq_true rfl⟩ ?_
          refine z_istore (pc := 33) K d_D_stateOf_33 (by decide) rfl ?_
          refine z_iload (pc := 35) K d_D_stateOf_35 rfl ?_
          refine z_iconst (pc := 37) K (v := (-1)) d_D_stateOf_37 (by decide) ?_
          refine z_icmp_ne (pc := 38) K (tgt := 43) d_D_stateOf_38 (by decide) (fun c38 => ?_) (fun c38 => ?_)
          · refine z_iload (pc := 43) K d_D_stateOf_43 rfl ?_
            refine z_if_ne (pc := 45) K (tgt := 51) d_D_stateOf_45 (by decide) (fun c45 => ?_) (fun c45 => ?_)
            · refine z_iinc (pc := 51) K (v := nI (i + 1)) d_D_stateOf_51 1 rfl (inc1 i) (by decide) rfl ?_
              refine z_goto (pc := 54) K (tgt := 4) d_D_stateOf_54 (by decide) ?_
              refine z_lv [0, 2, 3, 4] rfl ?_
              exact ih (i + 1) _ (by omega) (by omega) (by rw [← hf]; simp [d_stl, c24, c38, c45])
            · refine z_iinc (pc := 48) K (v := nI (o + 1)) d_D_stateOf_48 2 rfl (inc1 o) (by decide) rfl ?_
              refine z_iinc (pc := 51) K (v := nI (i + 1)) d_D_stateOf_51 2 rfl (inc1 i) (by decide) rfl ?_
              refine z_goto (pc := 54) K (tgt := 4) d_D_stateOf_54 (by decide) ?_
              refine z_lv [0, 1, 3, 4] rfl ?_
              exact ih (i + 1) _ (by omega) (by omega) (by rw [← hf]; simp [d_stl, c24, c38, c45])
          · refine z_iconst (pc := 41) K (v := (-1)) d_D_stateOf_41 (by decide) ?_
            exact z_reti (pc := 42) ret d_D_stateOf_42 (by rw [← hf]; simp [d_stl, c24, c38]) rfl
  refine z_lv [0, 1, 2, 3] rfl ?_
  exact LP (uN u).1 0 0 (by omega) (by omega) rfl
set_option maxRecDepth 100000 in
set_option maxHeartbeats 4000000 in
theorem c_D_openName (u : US) (k : Int32) (hu : uOk u) : MI l D vwCl (CT cI cJ cC cZ) (CW a cI cJ cC) y_D_openName (wA y_D_openName prog_1_method_33_code 3 (some .int)) { frames := 4, cells := 0, slots := 0, locals := 87 } [.ref (a 0), .int k] u (d_on u k) (u) := by
  refine MI.of (cc := prog_1_method_33_code) (nL := 3) (by decide) rfl (Nat.le_of_ble_eq_true rfl) ?_
  intro p e s m below meth c A Q K ret
  refine z_lvE (lv' := [(0, .ref (a 0)), (1, .int k)]) rfl ?_
  have hb := hu.1
  refine z_iconst (pc := 0) K (v := 0) d_D_openName_0 (by decide) ?_
  refine z_istore_n (pc := 1) K d_D_openName_1 rfl (by decide) rfl ?_
  have LP : ∀ (n i : Nat), i + n = (uN u).1 → fnd (fun i => if c_holds (uC u) k (nI i) = true then decide (d_rel u k (nI i) = 0) else false) n i = fnd (fun i => if c_holds (uC u) k (nI i) = true then decide (d_rel u k (nI i) = 0) else false) (uN u).1 0 → zW p l e { frames := 4, cells := 0, slots := 0, locals := 87 } s m [.ref (a 0), .int k].toArray below meth c D vwCl A 3 0 0 Q (CW a cI cJ cC u) 2 [(2, .int (nI i)), (0, .ref (a 0)), (1, .int k)] [] := by
    intro n
    induction n with
    | zero =>
      intro i hi hf
      refine z_iload_n (pc := 2) K d_D_openName_2 rfl ?_
      refine z_aload_n (pc := 3) K d_D_openName_3 rfl ?_
      refine z_get (pc := 4) K (ref := "DemandTerms") d_D_openName_4 hi_D 0 rfl rfl 0 (by decide) k110 rfl rfl ?_
      refine z_cVi (pc := 7) K 1 (c_N_size _ ) (cwA K 0 k325 k326 k327 k2 k328 q_N_size ⟨Nat.le_of_ble_eq_true rfl, Nat.le_of_ble_eq_true rfl⟩) d_D_openName_7 rfl rfl rfl rfl rfl (Nat.le_of_ble_eq_true rfl) ⟨Nat.le_of_ble_eq_true rfl, Nat.le_of_ble_eq_true rfl⟩ ?_
      refine z_icmp_ge (pc := 10) K (tgt := 42) d_D_openName_10 (by decide) (fun c10 => ?_) (fun c10 => ?_)
      · refine z_iconst (pc := 42) K (v := (-1)) d_D_openName_42 (by decide) ?_
        exact z_reti (pc := 43) ret d_D_openName_43 (by rw [d_on, ← hf] <;> rfl) rfl
      · exact absurd (nI_le (a := (uN u).1) (b := i) (by omega) (by omega)) c10
    | succ n ih =>
      intro i hi hf
      refine z_iload_n (pc := 2) K d_D_openName_2 rfl ?_
      refine z_aload_n (pc := 3) K d_D_openName_3 rfl ?_
      refine z_get (pc := 4) K (ref := "DemandTerms") d_D_openName_4 hi_D 0 rfl rfl 0 (by decide) k110 rfl rfl ?_
      refine z_cVi (pc := 7) K 1 (c_N_size _ ) (cwA K 0 k325 k326 k327 k2 k328 q_N_size ⟨Nat.le_of_ble_eq_true rfl, Nat.le_of_ble_eq_true rfl⟩) d_D_openName_7 rfl rfl rfl rfl rfl (Nat.le_of_ble_eq_true rfl) ⟨Nat.le_of_ble_eq_true rfl, Nat.le_of_ble_eq_true rfl⟩ ?_
      refine z_icmp_ge (pc := 10) K (tgt := 42) d_D_openName_10 (by decide) (fun c10 => ?_) (fun c10 => ?_)
      · exact absurd c10 (nI_ge (a := i) (b := (uN u).1) (by omega) (by omega))
      · refine z_aload_n (pc := 13) K d_D_openName_13 rfl ?_
        refine z_get (pc := 14) K (ref := "DemandTerms") d_D_openName_14 hi_D 0 rfl rfl 3 (by decide) k113 rfl rfl ?_
        refine z_iload_n (pc := 17) K d_D_openName_17 rfl ?_
        refine z_iload_n (pc := 18) K d_D_openName_18 rfl ?_
        refine z_cVi (pc := 19) K 12 (c_C_holds _ _ _ hu) (cwA K 2 k321 k322 k323 k5 k324 q_C_holds ⟨Nat.le_of_ble_eq_true rfl, Nat.le_of_ble_eq_true rfl⟩) d_D_openName_19 rfl rfl rfl rfl rfl (Nat.le_of_ble_eq_true rfl) ⟨Nat.le_of_ble_eq_true rfl, Nat.le_of_ble_eq_true rfl⟩ ?_
        refine z_ifb_eq (pc := 22) K (tgt := 36) d_D_openName_22 (by decide) (fun c22 => ?_) (fun c22 => ?_)
        · refine z_iinc (pc := 36) K (v := nI (i + 1)) d_D_openName_36 0 rfl (inc1 i) (by decide) rfl ?_
          refine z_goto (pc := 39) K (tgt := 2) d_D_openName_39 (by decide) ?_
          refine z_lv [0, 1, 2] rfl ?_
          exact ih (i + 1) (by omega) (by rw [← hf]; simp [fnd, c22])
        · refine z_aload_n (pc := 25) K d_D_openName_25 rfl ?_
          refine z_iload_n (pc := 26) K d_D_openName_26 rfl ?_
          refine z_iload_n (pc := 27) K d_D_openName_27 rfl ?_
          refine z_cVi (pc := 28) K 0 (c_D_relationToChoice _ _ _ hu) (cwA K 2 k393 k395 ks7 k1 k396 q_D_relationToChoice ⟨Nat.le_of_ble_eq_true rfl, Nat.le_of_ble_eq_true rfl⟩) d_D_openName_28 rfl rfl rfl rfl rfl (Nat.le_of_ble_eq_true rfl) ⟨Nat.le_of_ble_eq_true rfl, Nat.le_of_ble_eq_true rfl⟩ ?_
          refine z_if_ne (pc := 31) K (tgt := 36) d_D_openName_31 (by decide) (fun c31 => ?_) (fun c31 => ?_)
          · refine z_iinc (pc := 36) K (v := nI (i + 1)) d_D_openName_36 0 rfl (inc1 i) (by decide) rfl ?_
            refine z_goto (pc := 39) K (tgt := 2) d_D_openName_39 (by decide) ?_
            refine z_lv [0, 1, 2] rfl ?_
            exact ih (i + 1) (by omega) (by rw [← hf]; simp [fnd, c22, c31])
          · refine z_iload_n (pc := 34) K d_D_openName_34 rfl ?_
            exact z_reti (pc := 35) ret d_D_openName_35 (by rw [d_on, ← hf]; simp [fnd, fI, c22, c31]) rfl
  refine z_lv [0, 1, 2] rfl ?_
  exact LP (uN u).1 0 (by omega) rfl
set_option maxRecDepth 100000 in
set_option maxHeartbeats 4000000 in
theorem c_D_force (u : US) (k : Int32) (hu : uOk u) : MV l D vwCl (CT cI cJ cC cZ) (CW a cI cJ cC) y_D_force (wA y_D_force prog_1_method_34_code 3 none) { frames := 5, cells := 0, slots := 0, locals := 109 } [.ref (a 0), .int k] u (wH u (d_forceH u k)) := by
  refine MV.of (cc := prog_1_method_34_code) (nL := 3) (by decide) rfl (Nat.le_of_ble_eq_true rfl) ?_
  intro p e s m below meth c A Q K ret
  refine z_lvE (lv' := [(0, .ref (a 0)), (1, .int k)]) rfl ?_
  refine z_aload_n (pc := 0) K d_D_force_0 rfl ?_
  refine z_iload_n (pc := 1) K d_D_force_1 rfl ?_
  refine z_cVi (pc := 2) K 0 (c_D_openName _ _ hu) (cwA K 1 k401 k403 ks8 k1 k404 q_D_openName ⟨Nat.le_of_ble_eq_true rfl, Nat.le_of_ble_eq_true rfl⟩) d_D_force_2 rfl rfl rfl rfl rfl (Nat.le_of_ble_eq_true rfl) ⟨Nat.le_of_ble_eq_true rfl, Nat.le_of_ble_eq_true rfl⟩ ?_
  refine z_istore_n (pc := 5) K d_D_force_5 rfl (by decide) rfl ?_
  refine z_iload_n (pc := 6) K d_D_force_6 rfl ?_
  refine z_iconst (pc := 7) K (v := (-1)) d_D_force_7 (by decide) ?_
  refine z_icmp_eq (pc := 8) K (tgt := 34) d_D_force_8 (by decide) (fun c8 => ?_) (fun c8 => ?_)
  · exact z_retv (pc := 34) ret d_D_force_34 (by rw [d_forceH, if_pos c8] <;> rfl)
  · refine z_aload_n (pc := 11) K d_D_force_11 rfl ?_
    refine z_iload_n (pc := 12) K d_D_force_12 rfl ?_
    refine z_aload_n (pc := 13) K d_D_force_13 rfl ?_
    refine z_get (pc := 14) K (ref := "DemandTerms") d_D_force_14 hi_D 0 rfl rfl 0 (by decide) k110 rfl rfl ?_
    refine z_iload_n (pc := 17) K d_D_force_17 rfl ?_
    refine z_cVl (pc := 18) K 1 (c_N_everywhere _ _ hu) (cwA K 1 k138 k139 k140 k2 k141 q_N_everywhere ⟨Nat.le_of_ble_eq_true rfl, Nat.le_of_ble_eq_true rfl⟩) d_D_force_18 rfl rfl rfl rfl rfl (Nat.le_of_ble_eq_true rfl) ⟨Nat.le_of_ble_eq_true rfl, Nat.le_of_ble_eq_true rfl⟩ ?_
    refine z_aload_n (pc := 21) K d_D_force_21 rfl ?_
    refine z_get (pc := 22) K (ref := "DemandTerms") d_D_force_22 hi_D 0 rfl rfl 3 (by decide) k113 rfl rfl ?_
    refine z_iload_n (pc := 25) K d_D_force_25 rfl ?_
    refine z_iload_n (pc := 26) K d_D_force_26 rfl ?_
    refine z_cVl (pc := 27) K 12 (c_C_placesOf _ _ _ hu) (cwA K 2 k333 k334 k335 k5 k336 q_C_placesOf ⟨Nat.le_of_ble_eq_true rfl, Nat.le_of_ble_eq_true rfl⟩) d_D_force_27 rfl rfl rfl rfl rfl (Nat.le_of_ble_eq_true rfl) ⟨Nat.le_of_ble_eq_true rfl, Nat.le_of_ble_eq_true rfl⟩ ?_
    refine z_lxor (pc := 30) K d_D_force_30 ?_
    refine z_cVv (pc := 31) K 0 (c_D_narrowChoice _ _ _ hu) (cwA K 2 k377 k379 ks5 k1 k380 q_D_narrowChoice ⟨Nat.le_of_ble_eq_true rfl, Nat.le_of_ble_eq_true rfl⟩) d_D_force_31 rfl rfl rfl rfl rfl (Nat.le_of_ble_eq_true rfl) ⟨Nat.le_of_ble_eq_true rfl, Nat.le_of_ble_eq_true rfl⟩ ?_
    exact z_retv (pc := 34) ret d_D_force_34 (by rw [d_forceH, if_neg c8] <;> rfl)
set_option maxRecDepth 100000 in
set_option maxHeartbeats 4000000 in
theorem c_D_firstKept (u : US)  (hu : uOk u) : MI l D vwCl (CT cI cJ cC cZ) (CW a cI cJ cC) y_D_firstKept (wA y_D_firstKept prog_1_method_35_code 2 (some .int)) { frames := 5, cells := 0, slots := 0, locals := 111 } [.ref (a 0)] u (d_fk u) (u) := by
  refine MI.of (cc := prog_1_method_35_code) (nL := 2) (by decide) rfl (Nat.le_of_ble_eq_true rfl) ?_
  intro p e s m below meth c A Q K ret
  refine z_lvE (lv' := [(0, .ref (a 0))]) rfl ?_
  have hb := hu.2.2.2.1
  refine z_iconst (pc := 0) K (v := 0) d_D_firstKept_0 (by decide) ?_
  refine z_istore_n (pc := 1) K d_D_firstKept_1 rfl (by decide) rfl ?_
  have LP : ∀ (n i : Nat), i + n = (uC u).1 → fnd (fun k => decide (d_st u (nI k) = 1)) n i = fnd (fun k => decide (d_st u (nI k) = 1)) (uC u).1 0 → zW p l e { frames := 5, cells := 0, slots := 0, locals := 111 } s m [.ref (a 0)].toArray below meth c D vwCl A 2 0 0 Q (CW a cI cJ cC u) 2 [(1, .int (nI i)), (0, .ref (a 0))] [] := by
    intro n
    induction n with
    | zero =>
      intro i hi hf
      refine z_iload_n (pc := 2) K d_D_firstKept_2 rfl ?_
      refine z_aload_n (pc := 3) K d_D_firstKept_3 rfl ?_
      refine z_get (pc := 4) K (ref := "DemandTerms") d_D_firstKept_4 hi_D 0 rfl rfl 3 (by decide) k113 rfl rfl ?_
      refine z_cVi (pc := 7) K 12 (c_C_size _ ) (cwA K 0 k232 k233 k234 k5 k235 q_C_size ⟨Nat.le_of_ble_eq_true rfl, Nat.le_of_ble_eq_true rfl⟩) d_D_firstKept_7 rfl rfl rfl rfl rfl (Nat.le_of_ble_eq_true rfl) ⟨Nat.le_of_ble_eq_true rfl, Nat.le_of_ble_eq_true rfl⟩ ?_
      refine z_icmp_ge (pc := 10) K (tgt := 30) d_D_firstKept_10 (by decide) (fun c10 => ?_) (fun c10 => ?_)
      · refine z_iconst (pc := 30) K (v := (-1)) d_D_firstKept_30 (by decide) ?_
        exact z_reti (pc := 31) ret d_D_firstKept_31 (by rw [d_fk, ← hf] <;> rfl) rfl
      · exact absurd (nI_le (a := (uC u).1) (b := i) (by omega) (by omega)) c10
    | succ n ih =>
      intro i hi hf
      refine z_iload_n (pc := 2) K d_D_firstKept_2 rfl ?_
      refine z_aload_n (pc := 3) K d_D_firstKept_3 rfl ?_
      refine z_get (pc := 4) K (ref := "DemandTerms") d_D_firstKept_4 hi_D 0 rfl rfl 3 (by decide) k113 rfl rfl ?_
      refine z_cVi (pc := 7) K 12 (c_C_size _ ) (cwA K 0 k232 k233 k234 k5 k235 q_C_size ⟨Nat.le_of_ble_eq_true rfl, Nat.le_of_ble_eq_true rfl⟩) d_D_firstKept_7 rfl rfl rfl rfl rfl (Nat.le_of_ble_eq_true rfl) ⟨Nat.le_of_ble_eq_true rfl, Nat.le_of_ble_eq_true rfl⟩ ?_
      refine z_icmp_ge (pc := 10) K (tgt := 30) d_D_firstKept_10 (by decide) (fun c10 => ?_) (fun c10 => ?_)
      · exact absurd c10 (nI_ge (a := i) (b := (uC u).1) (by omega) (by omega))
      · refine z_aload_n (pc := 13) K d_D_firstKept_13 rfl ?_
        refine z_iload_n (pc := 14) K d_D_firstKept_14 rfl ?_
        refine z_cVi (pc := 15) K 0 (c_D_stateOf _ _ hu) (cwA K 1 k389 k391 ks6 k1 k392 q_D_stateOf ⟨Nat.le_of_ble_eq_true rfl, Nat.le_of_ble_eq_true rfl⟩) d_D_firstKept_15 rfl rfl rfl rfl rfl (Nat.le_of_ble_eq_true rfl) ⟨Nat.le_of_ble_eq_true rfl, Nat.le_of_ble_eq_true rfl⟩ ?_
        refine z_iconst (pc := 18) K (v := 1) d_D_firstKept_18 (by decide) ?_
        refine z_icmp_ne (pc := 19) K (tgt := 24) d_D_firstKept_19 (by decide) (fun c19 => ?_) (fun c19 => ?_)
        · refine z_iinc (pc := 24) K (v := nI (i + 1)) d_D_firstKept_24 0 rfl (inc1 i) (by decide) rfl ?_
          refine z_goto (pc := 27) K (tgt := 2) d_D_firstKept_27 (by decide) ?_
          refine z_lv [0, 1] rfl ?_
          exact ih (i + 1) (by omega) (by rw [← hf]; simp [fnd, c19])
        · refine z_iload_n (pc := 22) K d_D_firstKept_22 rfl ?_
          exact z_reti (pc := 23) ret d_D_firstKept_23 (by rw [d_fk, ← hf]; simp [fnd, fI, c19]) rfl
  refine z_lv [0, 1] rfl ?_
  exact LP (uC u).1 0 (by omega) rfl
set_option maxRecDepth 100000 in
set_option maxHeartbeats 4000000 in
theorem c_D_runAround (u : US) (vs : Int64) (v : Nat) (hv : v < 48) : ML l D vwCl (CT cI cJ cC cZ) (CW a cI cJ cC) y_D_runAround (wA y_D_runAround prog_1_method_40_code 6 (some .long)) { frames := 1, cells := 0, slots := 0, locals := 22 } [.long vs, .int (nI v)] u (s_ra vs v) (u) := by
  refine ML.of (cc := prog_1_method_40_code) (nL := 6) (by decide) rfl (Nat.le_of_ble_eq_true rfl) ?_
  intro p e s m below meth c A Q K ret
  refine z_lvE (lv' := [(0, .long vs), (2, .int (nI v))]) rfl ?_
  have J36 : ∀ (r : Int64) (b : Int32), r = (ra_dn vs v (s_bit (nI v))) → zW p l e { frames := 1, cells := 0, slots := 0, locals := 22 } s m [.long vs, .int (nI v)].toArray below meth c D vwCl A 6 0 0 Q (CW a cI cJ cC u) 36 [(5, .int b), (3, .long r), (0, .long vs), (2, .int (nI v))] [] := by
    intro r b hr
    refine z_iload_n (pc := 36) K d_D_runAround_36 rfl ?_
    refine z_iconst (pc := 37) K (v := 1) d_D_runAround_37 (by decide) ?_
    refine z_iadd (pc := 38) K d_D_runAround_38 ?_
    refine z_eqi (nI_1 _) ?_
    refine z_istore (pc := 39) K d_D_runAround_39 (by decide) rfl ?_
    have LP2 : ∀ (n i : Nat) (r : Int64), i + n = 48 → ra_up vs n i r = s_ra vs v → zW p l e { frames := 1, cells := 0, slots := 0, locals := 22 } s m [.long vs, .int (nI v)].toArray below meth c D vwCl A 6 0 0 Q (CW a cI cJ cC u) 41 [(5, .int (nI i)), (3, .long r), (0, .long vs), (2, .int (nI v))] [] := by
      intro n
      induction n with
      | zero =>
        intro i r hi hf
        refine z_iload (pc := 41) K d_D_runAround_41 rfl ?_
        refine z_bipush (pc := 43) K (v := 48) d_D_runAround_43 (by decide) ?_
        refine z_icmp_ge (pc := 45) K (tgt := 70) d_D_runAround_45 (by decide) (fun c45 => ?_) (fun c45 => ?_)
        · refine z_lload_n (pc := 70) K d_D_runAround_70 rfl ?_
          exact z_retl (pc := 71) ret d_D_runAround_71 (by rw [← hf] <;> rfl) rfl
        · exact absurd (nI_le (a := 48) (b := i) (by omega) (by omega)) c45
      | succ n ih =>
        intro i r hi hf
        refine z_iload (pc := 41) K d_D_runAround_41 rfl ?_
        refine z_bipush (pc := 43) K (v := 48) d_D_runAround_43 (by decide) ?_
        refine z_icmp_ge (pc := 45) K (tgt := 70) d_D_runAround_45 (by decide) (fun c45 => ?_) (fun c45 => ?_)
        · exact absurd c45 (nI_ge (a := i) (b := 48) (by omega) (by omega))
        · refine z_lload_n (pc := 48) K d_D_runAround_48 rfl ?_
          refine z_iload (pc := 49) K d_D_runAround_49 rfl ?_
          refine z_cSi (pc := 51) K (c_D_hasVersion _ _ _ ) (cwSA K 2 k272 k222 k1 k223 q_D_hasVersion.2 ⟨Nat.le_of_ble_eq_true rfl, Nat.le_of_ble_eq_true rfl⟩) d_D_runAround_51 rfl rfl (Nat.le_of_ble_eq_true rfl) ⟨Nat.le_of_ble_eq_true rfl, Nat.le_of_ble_eq_true rfl⟩ ?_
          refine z_ifb_eq (pc := 54) K (tgt := 70) d_D_runAround_54 (by decide) (fun c54 => ?_) (fun c54 => ?_)
          · refine z_lload_n (pc := 70) K d_D_runAround_70 rfl ?_
            exact z_retl (pc := 71) ret d_D_runAround_71 (by rw [← hf]; simp [ra_up, c54]) rfl
          · refine z_lload_n (pc := 57) K d_D_runAround_57 rfl ?_
            refine z_lconst (pc := 58) K (v := 1) d_D_runAround_58 (by decide) ?_
            refine z_iload (pc := 59) K d_D_runAround_59 rfl ?_
            refine z_lshl (pc := 61) K d_D_runAround_61 ?_
            refine z_lor (pc := 62) K d_D_runAround_62 ?_
            refine z_lstore_n (pc := 63) K d_D_runAround_63 rfl (by decide) rfl ?_
            refine z_iinc (pc := 64) K (v := nI (i + 1)) d_D_runAround_64 1 rfl (inc1 i) (by decide) rfl ?_
            refine z_goto (pc := 67) K (tgt := 41) d_D_runAround_67 (by decide) ?_
            refine z_lv [0, 1, 2, 3] rfl ?_
            exact ih (i + 1) _ (by omega) (by rw [← hf]; simp [ra_up, c54, s_bit])
    refine z_lv [0, 1, 2, 3] rfl ?_
    exact LP2 (47 - v) (v + 1) r (by omega) (by rw [hr]; rfl)
  refine z_lconst (pc := 0) K (v := 1) d_D_runAround_0 (by decide) ?_
  refine z_iload_n (pc := 1) K d_D_runAround_1 rfl ?_
  refine z_lshl (pc := 2) K d_D_runAround_2 ?_
  refine z_lstore_n (pc := 3) K d_D_runAround_3 rfl (by decide) rfl ?_
  refine z_iload_n (pc := 4) K d_D_runAround_4 rfl ?_
  refine z_iconst (pc := 5) K (v := 1) d_D_runAround_5 (by decide) ?_
  refine z_isub (pc := 6) K d_D_runAround_6 ?_
  refine z_istore (pc := 7) K d_D_runAround_7 (by decide) rfl ?_
  have LP : ∀ (j : Nat) (r : Int64), j ≤ v → ra_dn vs j r = (ra_dn vs v (s_bit (nI v))) → zW p l e { frames := 1, cells := 0, slots := 0, locals := 22 } s m [.long vs, .int (nI v)].toArray below meth c D vwCl A 6 0 0 Q (CW a cI cJ cC u) 9 [(5, .int (nI j - 1)), (3, .long r), (0, .long vs), (2, .int (nI v))] [] := by
    intro j
    induction j with
    | zero =>
      intro r hj hf
      refine z_iload (pc := 9) K d_D_runAround_9 rfl ?_
      refine z_if_lt (pc := 11) K (tgt := 36) d_D_runAround_11 (by decide) (fun c11 => ?_) (fun c11 => ?_)
      · refine z_lv [0, 1, 2, 3] rfl ?_
        exact J36 _ _ (by rw [← hf] <;> rfl)
      · exact absurd (by decide) c11
    | succ j ih =>
      intro r hj hf
      refine z_lvE (lv' := [(5, .int (nI j)), (3, .long r), (0, .long vs), (2, .int (nI v))]) (by rw [nI_pred]) ?_
      refine z_iload (pc := 9) K d_D_runAround_9 rfl ?_
      refine z_if_lt (pc := 11) K (tgt := 36) d_D_runAround_11 (by decide) (fun c11 => ?_) (fun c11 => ?_)
      · exact absurd c11 (nI_pos (by omega))
      · refine z_lload_n (pc := 14) K d_D_runAround_14 rfl ?_
        refine z_iload (pc := 15) K d_D_runAround_15 rfl ?_
        refine z_cSi (pc := 17) K (c_D_hasVersion _ _ _ ) (cwSA K 2 k272 k222 k1 k223 q_D_hasVersion.2 ⟨Nat.le_of_ble_eq_true rfl, Nat.le_of_ble_eq_true rfl⟩) d_D_runAround_17 rfl rfl (Nat.le_of_ble_eq_true rfl) ⟨Nat.le_of_ble_eq_true rfl, Nat.le_of_ble_eq_true rfl⟩ ?_
        refine z_ifb_eq (pc := 20) K (tgt := 36) d_D_runAround_20 (by decide) (fun c20 => ?_) (fun c20 => ?_)
        · refine z_lv [0, 1, 2, 3] rfl ?_
          exact J36 _ _ (by rw [← hf]; simp [ra_dn, c20])
        · refine z_lload_n (pc := 23) K d_D_runAround_23 rfl ?_
          refine z_lconst (pc := 24) K (v := 1) d_D_runAround_24 (by decide) ?_
          refine z_iload (pc := 25) K d_D_runAround_25 rfl ?_
          refine z_lshl (pc := 27) K d_D_runAround_27 ?_
          refine z_lor (pc := 28) K d_D_runAround_28 ?_
          refine z_lstore_n (pc := 29) K d_D_runAround_29 rfl (by decide) rfl ?_
          refine z_iinc (pc := 30) K (v := nI j - 1) d_D_runAround_30 1 rfl (decm j) (by decide) rfl ?_
          refine z_goto (pc := 33) K (tgt := 9) d_D_runAround_33 (by decide) ?_
          refine z_lv [0, 1, 2, 3] rfl ?_
          exact ih _ (by omega) (by rw [← hf]; simp [ra_dn, c20, s_bit])
  refine z_lv [0, 1, 2, 3] rfl ?_
  exact LP v _ (Nat.le_refl _) rfl
end CM
section CM
variable {l : Launch} {D : va_G} {a : Nat → Nat} {cI cJ cC cZ : ClassId}
set_option maxRecDepth 100000 in
set_option maxHeartbeats 4000000 in
theorem c_D_deriveFrom (u : US) (x : Int32) (hu : uOk u) (hx : ∃ v : Nat, v < 48 ∧ r_vr (uR u) x = nI v) : MI l D vwCl (CT cI cJ cC cZ) (CW a cI cJ cC) y_D_deriveFrom (wA y_D_deriveFrom prog_1_method_27_code 6 (some .boolean)) { frames := 3, cells := 0, slots := 0, locals := 69 } [.ref (a 0), .int x] u (bI ((d_df u x).1)) (wC u (d_df u x).2) := by
  refine MI.ofZ (cc := prog_1_method_27_code) (nL := 6) (by decide) rfl (Nat.le_of_ble_eq_true rfl) ?_
  intro p e s m below meth c A Q K ret
  refine z_lvE (lv' := [(0, .ref (a 0)), (1, .int x)]) rfl ?_
  obtain ⟨v, hv, ev⟩ := hx
  have e2 : (r_vr (uR u) x).toNatClampNeg = v := by rw [ev]; exact nI_clamp (by omega)
  have hb := hu.2.2.2.1
  refine z_aload_n (pc := 0) K d_D_deriveFrom_0 rfl ?_
  refine z_get (pc := 1) K (ref := "DemandTerms") d_D_deriveFrom_1 hi_D 0 rfl rfl 2 (by decide) k112 rfl rfl ?_
  refine z_iload_n (pc := 4) K d_D_deriveFrom_4 rfl ?_
  refine z_cVl (pc := 5) K 6 (c_R_versionsLike _ _ hu) (cwA K 1 k277 k278 k279 k4 k280 q_R_versionsLike ⟨Nat.le_of_ble_eq_true rfl, Nat.le_of_ble_eq_true rfl⟩) d_D_deriveFrom_5 rfl rfl rfl rfl rfl (Nat.le_of_ble_eq_true rfl) ⟨Nat.le_of_ble_eq_true rfl, Nat.le_of_ble_eq_true rfl⟩ ?_
  refine z_aload_n (pc := 8) K d_D_deriveFrom_8 rfl ?_
  refine z_get (pc := 9) K (ref := "DemandTerms") d_D_deriveFrom_9 hi_D 0 rfl rfl 2 (by decide) k112 rfl rfl ?_
  refine z_iload_n (pc := 12) K d_D_deriveFrom_12 rfl ?_
  refine z_cVi (pc := 13) K 6 (c_R_versionOf _ _ hu) (cwA K 1 k252 k253 k254 k4 k255 q_R_versionOf ⟨Nat.le_of_ble_eq_true rfl, Nat.le_of_ble_eq_true rfl⟩) d_D_deriveFrom_13 rfl rfl rfl rfl rfl (Nat.le_of_ble_eq_true rfl) ⟨Nat.le_of_ble_eq_true rfl, Nat.le_of_ble_eq_true rfl⟩ ?_
  refine z_eqi ev ?_
  refine z_cSl (pc := 16) K (c_D_runAround _ _ _ hv) (cwSA K 2 k282 k283 k1 k284 q_D_runAround.2 ⟨Nat.le_of_ble_eq_true rfl, Nat.le_of_ble_eq_true rfl⟩) d_D_deriveFrom_16 rfl rfl (Nat.le_of_ble_eq_true rfl) ⟨Nat.le_of_ble_eq_true rfl, Nat.le_of_ble_eq_true rfl⟩ ?_
  refine z_eql (y := d_run u x) (by rw [d_run, e2]) ?_
  refine z_lstore_n (pc := 19) K d_D_deriveFrom_19 rfl (by decide) rfl ?_
  refine z_aload_n (pc := 20) K d_D_deriveFrom_20 rfl ?_
  refine z_get (pc := 21) K (ref := "DemandTerms") d_D_deriveFrom_21 hi_D 0 rfl rfl 3 (by decide) k113 rfl rfl ?_
  refine z_iload_n (pc := 24) K d_D_deriveFrom_24 rfl ?_
  refine z_lload_n (pc := 25) K d_D_deriveFrom_25 rfl ?_
  refine z_cVi (pc := 26) K 12 (c_C_add _ _ _ hu) (cwA K 2 k285 k286 k287 k5 k288 q_C_add ⟨Nat.le_of_ble_eq_true rfl, Nat.le_of_ble_eq_true rfl⟩) d_D_deriveFrom_26 rfl rfl rfl rfl rfl (Nat.le_of_ble_eq_true rfl) ⟨Nat.le_of_ble_eq_true rfl, Nat.le_of_ble_eq_true rfl⟩ ?_
  by_cases h3 : (300 : Int32) ≤ nI (uC u).1
  · refine z_eqi (y := -1) (by rw [c_add, if_pos h3] <;> rfl) ?_
    refine z_istore (pc := 29) K d_D_deriveFrom_29 (by decide) rfl ?_
    refine z_iload (pc := 31) K d_D_deriveFrom_31 rfl ?_
    refine z_iconst (pc := 33) K (v := (-1)) d_D_deriveFrom_33 (by decide) ?_
    refine z_icmp_ne (pc := 34) K (tgt := 39) d_D_deriveFrom_34 (by decide) (fun c34 => ?_) (fun c34 => ?_)
    · exact absurd rfl c34
    · refine z_iconst (pc := 37) K (v := 0) d_D_deriveFrom_37 (by decide) ?_
      refine z_eqi (y := bI false) rfl ?_
      exact z_reti (pc := 38) ret d_D_deriveFrom_38 (by rw [d_df, if_pos h3] <;> rfl) (by rw [d_df, if_pos h3, c_add, if_pos h3] <;> rfl)
  · refine z_eqi (y := nI (uC u).1) (by rw [c_add, if_neg h3] <;> rfl) ?_
    refine z_istore (pc := 29) K d_D_deriveFrom_29 (by decide) rfl ?_
    refine z_iload (pc := 31) K d_D_deriveFrom_31 rfl ?_
    refine z_iconst (pc := 33) K (v := (-1)) d_D_deriveFrom_33 (by decide) ?_
    refine z_icmp_ne (pc := 34) K (tgt := 39) d_D_deriveFrom_34 (by decide) (fun c34 => ?_) (fun c34 => ?_)
    · refine z_ws (ws' := CW a cI cJ cC (d_df1 u x)) rfl ?_
      refine z_aload_n (pc := 39) K d_D_deriveFrom_39 rfl ?_
      refine z_iload (pc := 40) K d_D_deriveFrom_40 rfl ?_
      refine z_aload_n (pc := 42) K d_D_deriveFrom_42 rfl ?_
      refine z_get (pc := 43) K (ref := "DemandTerms") d_D_deriveFrom_43 hi_D 0 rfl rfl 2 (by decide) k112 rfl rfl ?_
      refine z_iload_n (pc := 46) K d_D_deriveFrom_46 rfl ?_
      refine z_cVi (pc := 47) K 6 (c_R_nameOf _ _ (ok_cadd _ _ hu)) (cwA K 1 k289 k290 k291 k4 k292 q_R_nameOf ⟨Nat.le_of_ble_eq_true rfl, Nat.le_of_ble_eq_true rfl⟩) d_D_deriveFrom_47 rfl rfl rfl rfl rfl (Nat.le_of_ble_eq_true rfl) ⟨Nat.le_of_ble_eq_true rfl, Nat.le_of_ble_eq_true rfl⟩ ?_
      refine z_lload_n (pc := 50) K d_D_deriveFrom_50 rfl ?_
      refine z_cVv (pc := 51) K 0 (c_D_putPart (d_df1 u x) _ _ _ (ok_cadd _ _ hu)) (cwA K 3 k293 k295 ks3 k1 k296 q_D_putPart ⟨Nat.le_of_ble_eq_true rfl, Nat.le_of_ble_eq_true rfl⟩) d_D_deriveFrom_51 rfl rfl rfl rfl rfl (Nat.le_of_ble_eq_true rfl) ⟨Nat.le_of_ble_eq_true rfl, Nat.le_of_ble_eq_true rfl⟩ ?_
      refine z_ws (ws' := (CW a cI cJ cC (d_df2 u x))) rfl ?_
      refine z_aload_n (pc := 54) K d_D_deriveFrom_54 rfl ?_
      refine z_get (pc := 55) K (ref := "DemandTerms") d_D_deriveFrom_55 hi_D 0 rfl rfl 2 (by decide) k112 rfl rfl ?_
      refine z_iload_n (pc := 58) K d_D_deriveFrom_58 rfl ?_
      refine z_cVi (pc := 59) K 6 (c_R_otherOf _ _ (ok_pp _ _ _ (ok_cadd _ _ hu))) (cwA K 1 k301 k302 k303 k4 k304 q_R_otherOf ⟨Nat.le_of_ble_eq_true rfl, Nat.le_of_ble_eq_true rfl⟩) d_D_deriveFrom_59 rfl rfl rfl rfl rfl (Nat.le_of_ble_eq_true rfl) ⟨Nat.le_of_ble_eq_true rfl, Nat.le_of_ble_eq_true rfl⟩ ?_
      refine z_istore (pc := 62) K d_D_deriveFrom_62 (by decide) rfl ?_
      refine z_aload_n (pc := 64) K d_D_deriveFrom_64 rfl ?_
      refine z_iload (pc := 65) K d_D_deriveFrom_65 rfl ?_
      refine z_iload (pc := 67) K d_D_deriveFrom_67 rfl ?_
      refine z_aload_n (pc := 69) K d_D_deriveFrom_69 rfl ?_
      refine z_get (pc := 70) K (ref := "DemandTerms") d_D_deriveFrom_70 hi_D 0 rfl rfl 0 (by decide) k110 rfl rfl ?_
      refine z_iload (pc := 73) K d_D_deriveFrom_73 rfl ?_
      refine z_aload_n (pc := 75) K d_D_deriveFrom_75 rfl ?_
      refine z_get (pc := 76) K (ref := "DemandTerms") d_D_deriveFrom_76 hi_D 0 rfl rfl 2 (by decide) k112 rfl rfl ?_
      refine z_iload_n (pc := 79) K d_D_deriveFrom_79 rfl ?_
      refine z_cVl (pc := 80) K 6 (c_R_neededOf _ _ (ok_pp _ _ _ (ok_cadd _ _ hu))) (cwA K 1 k305 k306 k307 k4 k308 q_R_neededOf ⟨Nat.le_of_ble_eq_true rfl, Nat.le_of_ble_eq_true rfl⟩) d_D_deriveFrom_80 rfl rfl rfl rfl rfl (Nat.le_of_ble_eq_true rfl) ⟨Nat.le_of_ble_eq_true rfl, Nat.le_of_ble_eq_true rfl⟩ ?_
      refine z_iconst (pc := 83) K (v := 0) d_D_deriveFrom_83 (by decide) ?_
      refine z_cVl (pc := 84) K 1 (c_N_placesOf _ _ _ _ (ok_pp _ _ _ (ok_cadd _ _ hu))) (cwA K 3 k151 k152 k153 k2 k154 q_N_placesOf ⟨Nat.le_of_ble_eq_true rfl, Nat.le_of_ble_eq_true rfl⟩) d_D_deriveFrom_84 rfl rfl rfl rfl rfl (Nat.le_of_ble_eq_true rfl) ⟨Nat.le_of_ble_eq_true rfl, Nat.le_of_ble_eq_true rfl⟩ ?_
      refine z_cVv (pc := 87) K 0 (c_D_putPart _ _ _ _ (ok_pp _ _ _ (ok_cadd _ _ hu))) (cwA K 3 k293 k295 ks3 k1 k296 q_D_putPart ⟨Nat.le_of_ble_eq_true rfl, Nat.le_of_ble_eq_true rfl⟩) d_D_deriveFrom_87 rfl rfl rfl rfl rfl (Nat.le_of_ble_eq_true rfl) ⟨Nat.le_of_ble_eq_true rfl, Nat.le_of_ble_eq_true rfl⟩ ?_
      refine z_ws (ws' := (CW a cI cJ cC (d_df3 u x))) rfl ?_
      refine z_iconst (pc := 90) K (v := 1) d_D_deriveFrom_90 (by decide) ?_
      refine z_eqi (y := bI true) rfl ?_
      exact z_reti (pc := 91) ret d_D_deriveFrom_91 (by rw [d_df, if_neg h3] <;> rfl) (by rw [d_df, if_neg h3] <;> rfl)
    · exact absurd c34 (nI_ne_m1 (by omega))
end CM
section CM
variable {l : Launch} {D : va_G} {a : Nat → Nat} {cI cJ cC cZ : ClassId}
set_option maxRecDepth 100000 in
set_option maxHeartbeats 4000000 in
theorem c_D_printPart (u : US) (x : Int32) (pl : Int64) (hu : uOk u) : MV l D vwCl (CT cI cJ cC cZ) (CW a cI cJ cC) y_D_printPart (wA y_D_printPart prog_1_method_36_code 4 none) { frames := 3, cells := 0, slots := 0, locals := 70 } [.ref (a 0), .int x, .long pl] u (wG u (d_pr u x pl (uG u))) := by
  refine MV.of (cc := prog_1_method_36_code) (nL := 4) (by decide) rfl (Nat.le_of_ble_eq_true rfl) ?_
  intro p e s m below meth c A Q K ret
  refine z_lvE (lv' := [(0, .ref (a 0)), (1, .int x), (2, .long pl)]) rfl ?_
  refine z_aload_n (pc := 0) K d_D_printPart_0 rfl ?_
  refine z_get (pc := 1) K (ref := "DemandTerms") d_D_printPart_1 hi_D 0 rfl rfl 5 (by decide) k115 rfl rfl ?_
  refine z_cVi (pc := 4) K 18 (c_G_length _ ) (cwA K 0 k438 k439 k440 k6 k441 q_G_length ⟨Nat.le_of_ble_eq_true rfl, Nat.le_of_ble_eq_true rfl⟩) d_D_printPart_4 rfl rfl rfl rfl rfl (Nat.le_of_ble_eq_true rfl) ⟨Nat.le_of_ble_eq_true rfl, Nat.le_of_ble_eq_true rfl⟩ ?_
  refine z_if_le (pc := 7) K (tgt := 28) d_D_printPart_7 (by decide) (fun c7 => ?_) (fun c7 => ?_)
  · refine z_lload_n (pc := 28) K d_D_printPart_28 rfl ?_
    refine z_cSi (pc := 29) K (c_D_isWanted _ _ ) (cwSA K 1 k194 k195 k1 k196 q_D_isWanted.2 ⟨Nat.le_of_ble_eq_true rfl, Nat.le_of_ble_eq_true rfl⟩) d_D_printPart_29 rfl rfl (Nat.le_of_ble_eq_true rfl) ⟨Nat.le_of_ble_eq_true rfl, Nat.le_of_ble_eq_true rfl⟩ ?_
    refine z_ifb_ne (pc := 32) K (tgt := 44) d_D_printPart_32 (by decide) (fun c32 => ?_) (fun c32 => ?_)
    · refine z_aload_n (pc := 44) K d_D_printPart_44 rfl ?_
      refine z_get (pc := 45) K (ref := "DemandTerms") d_D_printPart_45 hi_D 0 rfl rfl 5 (by decide) k115 rfl rfl ?_
      refine z_bipush (pc := 48) K (v := 97) d_D_printPart_48 (by decide) ?_
      refine z_iload_n (pc := 50) K d_D_printPart_50 rfl ?_
      refine z_iadd (pc := 51) K d_D_printPart_51 ?_
      refine z_i2c (pc := 52) K d_D_printPart_52 ?_
      refine z_cVv (pc := 53) K 18 (c_G_put _ _ hu) (cwA K 1 k442 k443 k444 k6 k445 q_G_put ⟨Nat.le_of_ble_eq_true rfl, Nat.le_of_ble_eq_true rfl⟩) d_D_printPart_53 rfl rfl rfl rfl rfl (Nat.le_of_ble_eq_true rfl) ⟨Nat.le_of_ble_eq_true rfl, Nat.le_of_ble_eq_true rfl⟩ ?_
      refine z_aload_n (pc := 56) K d_D_printPart_56 rfl ?_
      refine z_get (pc := 57) K (ref := "DemandTerms") d_D_printPart_57 hi_D 0 rfl rfl 5 (by decide) k115 rfl rfl ?_
      refine z_bipush (pc := 60) K (v := 32) d_D_printPart_60 (by decide) ?_
      refine z_cVv (pc := 62) K 18 (c_G_put _ _ (ok_gput _ hu)) (cwA K 1 k442 k443 k444 k6 k445 q_G_put ⟨Nat.le_of_ble_eq_true rfl, Nat.le_of_ble_eq_true rfl⟩) d_D_printPart_62 rfl rfl rfl rfl rfl (Nat.le_of_ble_eq_true rfl) ⟨Nat.le_of_ble_eq_true rfl, Nat.le_of_ble_eq_true rfl⟩ ?_
      refine z_aload_n (pc := 65) K d_D_printPart_65 rfl ?_
      refine z_get (pc := 66) K (ref := "DemandTerms") d_D_printPart_66 hi_D 0 rfl rfl 5 (by decide) k115 rfl rfl ?_
      refine z_aload_n (pc := 69) K d_D_printPart_69 rfl ?_
      refine z_get (pc := 70) K (ref := "DemandTerms") d_D_printPart_70 hi_D 0 rfl rfl 0 (by decide) k110 rfl rfl ?_
      refine z_iload_n (pc := 73) K d_D_printPart_73 rfl ?_
      refine z_lload_n (pc := 74) K d_D_printPart_74 rfl ?_
      refine z_cVl (pc := 75) K 1 (c_N_setOf _ _ _ (ok_gput _ (ok_gput _ hu))) (cwA K 2 k198 k199 k200 k2 k201 q_N_setOf ⟨Nat.le_of_ble_eq_true rfl, Nat.le_of_ble_eq_true rfl⟩) d_D_printPart_75 rfl rfl rfl rfl rfl (Nat.le_of_ble_eq_true rfl) ⟨Nat.le_of_ble_eq_true rfl, Nat.le_of_ble_eq_true rfl⟩ ?_
      refine z_cVv (pc := 78) K 18 (c_G_putRuns _ _ (ok_gput _ (ok_gput _ hu))) (cwA K 1 k446 k447 k448 k6 k449 q_G_putRuns ⟨Nat.le_of_ble_eq_true rfl, Nat.le_of_ble_eq_true rfl⟩) d_D_printPart_78 rfl rfl rfl rfl rfl (Nat.le_of_ble_eq_true rfl) ⟨Nat.le_of_ble_eq_true rfl, Nat.le_of_ble_eq_true rfl⟩ ?_
      exact z_retv (pc := 81) ret d_D_printPart_81 (by rw [d_pr, d_prA, if_neg (i_not_lt_of_le c7), d_prB, if_pos c32] <;> rfl)
    · refine z_aload_n (pc := 35) K d_D_printPart_35 rfl ?_
      refine z_get (pc := 36) K (ref := "DemandTerms") d_D_printPart_36 hi_D 0 rfl rfl 5 (by decide) k115 rfl rfl ?_
      refine z_bipush (pc := 39) K (v := 33) d_D_printPart_39 (by decide) ?_
      refine z_cVv (pc := 41) K 18 (c_G_put _ _ hu) (cwA K 1 k442 k443 k444 k6 k445 q_G_put ⟨Nat.le_of_ble_eq_true rfl, Nat.le_of_ble_eq_true rfl⟩) d_D_printPart_41 rfl rfl rfl rfl rfl (Nat.le_of_ble_eq_true rfl) ⟨Nat.le_of_ble_eq_true rfl, Nat.le_of_ble_eq_true rfl⟩ ?_
      refine z_aload_n (pc := 44) K d_D_printPart_44 rfl ?_
      refine z_get (pc := 45) K (ref := "DemandTerms") d_D_printPart_45 hi_D 0 rfl rfl 5 (by decide) k115 rfl rfl ?_
      refine z_bipush (pc := 48) K (v := 97) d_D_printPart_48 (by decide) ?_
      refine z_iload_n (pc := 50) K d_D_printPart_50 rfl ?_
      refine z_iadd (pc := 51) K d_D_printPart_51 ?_
      refine z_i2c (pc := 52) K d_D_printPart_52 ?_
      refine z_cVv (pc := 53) K 18 (c_G_put _ _ (ok_gput _ hu)) (cwA K 1 k442 k443 k444 k6 k445 q_G_put ⟨Nat.le_of_ble_eq_true rfl, Nat.le_of_ble_eq_true rfl⟩) d_D_printPart_53 rfl rfl rfl rfl rfl (Nat.le_of_ble_eq_true rfl) ⟨Nat.le_of_ble_eq_true rfl, Nat.le_of_ble_eq_true rfl⟩ ?_
      refine z_aload_n (pc := 56) K d_D_printPart_56 rfl ?_
      refine z_get (pc := 57) K (ref := "DemandTerms") d_D_printPart_57 hi_D 0 rfl rfl 5 (by decide) k115 rfl rfl ?_
      refine z_bipush (pc := 60) K (v := 32) d_D_printPart_60 (by decide) ?_
      refine z_cVv (pc := 62) K 18 (c_G_put _ _ (ok_gput _ (ok_gput _ hu))) (cwA K 1 k442 k443 k444 k6 k445 q_G_put ⟨Nat.le_of_ble_eq_true rfl, Nat.le_of_ble_eq_true rfl⟩) d_D_printPart_62 rfl rfl rfl rfl rfl (Nat.le_of_ble_eq_true rfl) ⟨Nat.le_of_ble_eq_true rfl, Nat.le_of_ble_eq_true rfl⟩ ?_
      refine z_aload_n (pc := 65) K d_D_printPart_65 rfl ?_
      refine z_get (pc := 66) K (ref := "DemandTerms") d_D_printPart_66 hi_D 0 rfl rfl 5 (by decide) k115 rfl rfl ?_
      refine z_aload_n (pc := 69) K d_D_printPart_69 rfl ?_
      refine z_get (pc := 70) K (ref := "DemandTerms") d_D_printPart_70 hi_D 0 rfl rfl 0 (by decide) k110 rfl rfl ?_
      refine z_iload_n (pc := 73) K d_D_printPart_73 rfl ?_
      refine z_lload_n (pc := 74) K d_D_printPart_74 rfl ?_
      refine z_cVl (pc := 75) K 1 (c_N_setOf _ _ _ (ok_gput _ (ok_gput _ (ok_gput _ hu)))) (cwA K 2 k198 k199 k200 k2 k201 q_N_setOf ⟨Nat.le_of_ble_eq_true rfl, Nat.le_of_ble_eq_true rfl⟩) d_D_printPart_75 rfl rfl rfl rfl rfl (Nat.le_of_ble_eq_true rfl) ⟨Nat.le_of_ble_eq_true rfl, Nat.le_of_ble_eq_true rfl⟩ ?_
      refine z_cVv (pc := 78) K 18 (c_G_putRuns _ _ (ok_gput _ (ok_gput _ (ok_gput _ hu)))) (cwA K 1 k446 k447 k448 k6 k449 q_G_putRuns ⟨Nat.le_of_ble_eq_true rfl, Nat.le_of_ble_eq_true rfl⟩) d_D_printPart_78 rfl rfl rfl rfl rfl (Nat.le_of_ble_eq_true rfl) ⟨Nat.le_of_ble_eq_true rfl, Nat.le_of_ble_eq_true rfl⟩ ?_
      exact z_retv (pc := 81) ret d_D_printPart_81 (by rw [d_pr, d_prA, if_neg (i_not_lt_of_le c7), d_prB, if_neg (by rw [c32]; decide)] <;> rfl)
  · refine z_aload_n (pc := 10) K d_D_printPart_10 rfl ?_
    refine z_get (pc := 11) K (ref := "DemandTerms") d_D_printPart_11 hi_D 0 rfl rfl 5 (by decide) k115 rfl rfl ?_
    refine z_bipush (pc := 14) K (v := 59) d_D_printPart_14 (by decide) ?_
    refine z_cVv (pc := 16) K 18 (c_G_put _ _ hu) (cwA K 1 k442 k443 k444 k6 k445 q_G_put ⟨Nat.le_of_ble_eq_true rfl, Nat.le_of_ble_eq_true rfl⟩) d_D_printPart_16 rfl rfl rfl rfl rfl (Nat.le_of_ble_eq_true rfl) ⟨Nat.le_of_ble_eq_true rfl, Nat.le_of_ble_eq_true rfl⟩ ?_
    refine z_aload_n (pc := 19) K d_D_printPart_19 rfl ?_
    refine z_get (pc := 20) K (ref := "DemandTerms") d_D_printPart_20 hi_D 0 rfl rfl 5 (by decide) k115 rfl rfl ?_
    refine z_bipush (pc := 23) K (v := 32) d_D_printPart_23 (by decide) ?_
    refine z_cVv (pc := 25) K 18 (c_G_put _ _ (ok_gput _ hu)) (cwA K 1 k442 k443 k444 k6 k445 q_G_put ⟨Nat.le_of_ble_eq_true rfl, Nat.le_of_ble_eq_true rfl⟩) d_D_printPart_25 rfl rfl rfl rfl rfl (Nat.le_of_ble_eq_true rfl) ⟨Nat.le_of_ble_eq_true rfl, Nat.le_of_ble_eq_true rfl⟩ ?_
    refine z_lload_n (pc := 28) K d_D_printPart_28 rfl ?_
    refine z_cSi (pc := 29) K (c_D_isWanted _ _ ) (cwSA K 1 k194 k195 k1 k196 q_D_isWanted.2 ⟨Nat.le_of_ble_eq_true rfl, Nat.le_of_ble_eq_true rfl⟩) d_D_printPart_29 rfl rfl (Nat.le_of_ble_eq_true rfl) ⟨Nat.le_of_ble_eq_true rfl, Nat.le_of_ble_eq_true rfl⟩ ?_
    refine z_ifb_ne (pc := 32) K (tgt := 44) d_D_printPart_32 (by decide) (fun c32 => ?_) (fun c32 => ?_)
    · refine z_aload_n (pc := 44) K d_D_printPart_44 rfl ?_
      refine z_get (pc := 45) K (ref := "DemandTerms") d_D_printPart_45 hi_D 0 rfl rfl 5 (by decide) k115 rfl rfl ?_
      refine z_bipush (pc := 48) K (v := 97) d_D_printPart_48 (by decide) ?_
      refine z_iload_n (pc := 50) K d_D_printPart_50 rfl ?_
      refine z_iadd (pc := 51) K d_D_printPart_51 ?_
      refine z_i2c (pc := 52) K d_D_printPart_52 ?_
      refine z_cVv (pc := 53) K 18 (c_G_put _ _ (ok_gput _ (ok_gput _ hu))) (cwA K 1 k442 k443 k444 k6 k445 q_G_put ⟨Nat.le_of_ble_eq_true rfl, Nat.le_of_ble_eq_true rfl⟩) d_D_printPart_53 rfl rfl rfl rfl rfl (Nat.le_of_ble_eq_true rfl) ⟨Nat.le_of_ble_eq_true rfl, Nat.le_of_ble_eq_true rfl⟩ ?_
      refine z_aload_n (pc := 56) K d_D_printPart_56 rfl ?_
      refine z_get (pc := 57) K (ref := "DemandTerms") d_D_printPart_57 hi_D 0 rfl rfl 5 (by decide) k115 rfl rfl ?_
      refine z_bipush (pc := 60) K (v := 32) d_D_printPart_60 (by decide) ?_
      refine z_cVv (pc := 62) K 18 (c_G_put _ _ (ok_gput _ (ok_gput _ (ok_gput _ hu)))) (cwA K 1 k442 k443 k444 k6 k445 q_G_put ⟨Nat.le_of_ble_eq_true rfl, Nat.le_of_ble_eq_true rfl⟩) d_D_printPart_62 rfl rfl rfl rfl rfl (Nat.le_of_ble_eq_true rfl) ⟨Nat.le_of_ble_eq_true rfl, Nat.le_of_ble_eq_true rfl⟩ ?_
      refine z_aload_n (pc := 65) K d_D_printPart_65 rfl ?_
      refine z_get (pc := 66) K (ref := "DemandTerms") d_D_printPart_66 hi_D 0 rfl rfl 5 (by decide) k115 rfl rfl ?_
      refine z_aload_n (pc := 69) K d_D_printPart_69 rfl ?_
      refine z_get (pc := 70) K (ref := "DemandTerms") d_D_printPart_70 hi_D 0 rfl rfl 0 (by decide) k110 rfl rfl ?_
      refine z_iload_n (pc := 73) K d_D_printPart_73 rfl ?_
      refine z_lload_n (pc := 74) K d_D_printPart_74 rfl ?_
      refine z_cVl (pc := 75) K 1 (c_N_setOf _ _ _ (ok_gput _ (ok_gput _ (ok_gput _ (ok_gput _ hu))))) (cwA K 2 k198 k199 k200 k2 k201 q_N_setOf ⟨Nat.le_of_ble_eq_true rfl, Nat.le_of_ble_eq_true rfl⟩) d_D_printPart_75 rfl rfl rfl rfl rfl (Nat.le_of_ble_eq_true rfl) ⟨Nat.le_of_ble_eq_true rfl, Nat.le_of_ble_eq_true rfl⟩ ?_
      refine z_cVv (pc := 78) K 18 (c_G_putRuns _ _ (ok_gput _ (ok_gput _ (ok_gput _ (ok_gput _ hu))))) (cwA K 1 k446 k447 k448 k6 k449 q_G_putRuns ⟨Nat.le_of_ble_eq_true rfl, Nat.le_of_ble_eq_true rfl⟩) d_D_printPart_78 rfl rfl rfl rfl rfl (Nat.le_of_ble_eq_true rfl) ⟨Nat.le_of_ble_eq_true rfl, Nat.le_of_ble_eq_true rfl⟩ ?_
      exact z_retv (pc := 81) ret d_D_printPart_81 (by rw [d_pr, d_prA, if_pos (i_lt_of_not_le c7), d_prB, if_pos c32] <;> rfl)
    · refine z_aload_n (pc := 35) K d_D_printPart_35 rfl ?_
      refine z_get (pc := 36) K (ref := "DemandTerms") d_D_printPart_36 hi_D 0 rfl rfl 5 (by decide) k115 rfl rfl ?_
      refine z_bipush (pc := 39) K (v := 33) d_D_printPart_39 (by decide) ?_
      refine z_cVv (pc := 41) K 18 (c_G_put _ _ (ok_gput _ (ok_gput _ hu))) (cwA K 1 k442 k443 k444 k6 k445 q_G_put ⟨Nat.le_of_ble_eq_true rfl, Nat.le_of_ble_eq_true rfl⟩) d_D_printPart_41 rfl rfl rfl rfl rfl (Nat.le_of_ble_eq_true rfl) ⟨Nat.le_of_ble_eq_true rfl, Nat.le_of_ble_eq_true rfl⟩ ?_
      refine z_aload_n (pc := 44) K d_D_printPart_44 rfl ?_
      refine z_get (pc := 45) K (ref := "DemandTerms") d_D_printPart_45 hi_D 0 rfl rfl 5 (by decide) k115 rfl rfl ?_
      refine z_bipush (pc := 48) K (v := 97) d_D_printPart_48 (by decide) ?_
      refine z_iload_n (pc := 50) K d_D_printPart_50 rfl ?_
      refine z_iadd (pc := 51) K d_D_printPart_51 ?_
      refine z_i2c (pc := 52) K d_D_printPart_52 ?_
      refine z_cVv (pc := 53) K 18 (c_G_put _ _ (ok_gput _ (ok_gput _ (ok_gput _ hu)))) (cwA K 1 k442 k443 k444 k6 k445 q_G_put ⟨Nat.le_of_ble_eq_true rfl, Nat.le_of_ble_eq_true rfl⟩) d_D_printPart_53 rfl rfl rfl rfl rfl (Nat.le_of_ble_eq_true rfl) ⟨Nat.le_of_ble_eq_true rfl, Nat.le_of_ble_eq_true rfl⟩ ?_
      refine z_aload_n (pc := 56) K d_D_printPart_56 rfl ?_
      refine z_get (pc := 57) K (ref := "DemandTerms") d_D_printPart_57 hi_D 0 rfl rfl 5 (by decide) k115 rfl rfl ?_
      refine z_bipush (pc := 60) K (v := 32) d_D_printPart_60 (by decide) ?_
      refine z_cVv (pc := 62) K 18 (c_G_put _ _ (ok_gput _ (ok_gput _ (ok_gput _ (ok_gput _ hu))))) (cwA K 1 k442 k443 k444 k6 k445 q_G_put ⟨Nat.le_of_ble_eq_true rfl, Nat.le_of_ble_eq_true rfl⟩) d_D_printPart_62 rfl rfl rfl rfl rfl (Nat.le_of_ble_eq_true rfl) ⟨Nat.le_of_ble_eq_true rfl, Nat.le_of_ble_eq_true rfl⟩ ?_
      refine z_aload_n (pc := 65) K d_D_printPart_65 rfl ?_
      refine z_get (pc := 66) K (ref := "DemandTerms") d_D_printPart_66 hi_D 0 rfl rfl 5 (by decide) k115 rfl rfl ?_
      refine z_aload_n (pc := 69) K d_D_printPart_69 rfl ?_
      refine z_get (pc := 70) K (ref := "DemandTerms") d_D_printPart_70 hi_D 0 rfl rfl 0 (by decide) k110 rfl rfl ?_
      refine z_iload_n (pc := 73) K d_D_printPart_73 rfl ?_
      refine z_lload_n (pc := 74) K d_D_printPart_74 rfl ?_
      refine z_cVl (pc := 75) K 1 (c_N_setOf _ _ _ (ok_gput _ (ok_gput _ (ok_gput _ (ok_gput _ (ok_gput _ hu)))))) (cwA K 2 k198 k199 k200 k2 k201 q_N_setOf ⟨Nat.le_of_ble_eq_true rfl, Nat.le_of_ble_eq_true rfl⟩) d_D_printPart_75 rfl rfl rfl rfl rfl (Nat.le_of_ble_eq_true rfl) ⟨Nat.le_of_ble_eq_true rfl, Nat.le_of_ble_eq_true rfl⟩ ?_
      refine z_cVv (pc := 78) K 18 (c_G_putRuns _ _ (ok_gput _ (ok_gput _ (ok_gput _ (ok_gput _ (ok_gput _ hu)))))) (cwA K 1 k446 k447 k448 k6 k449 q_G_putRuns ⟨Nat.le_of_ble_eq_true rfl, Nat.le_of_ble_eq_true rfl⟩) d_D_printPart_78 rfl rfl rfl rfl rfl (Nat.le_of_ble_eq_true rfl) ⟨Nat.le_of_ble_eq_true rfl, Nat.le_of_ble_eq_true rfl⟩ ?_
      exact z_retv (pc := 81) ret d_D_printPart_81 (by rw [d_pr, d_prA, if_pos (i_lt_of_not_le c7), d_prB, if_neg (by rw [c32]; decide)] <;> rfl)
set_option maxRecDepth 100000 in
set_option maxHeartbeats 4000000 in
theorem c_D_print (u : US) (k : Int32) (hu : uOk u) : MI l D vwCl (CT cI cJ cC cZ) (CW a cI cJ cC) y_D_print (wA y_D_print prog_1_method_23_code 3 (some .int)) { frames := 4, cells := 0, slots := 0, locals := 93 } [.ref (a 0), .int k] u ((d_print u k).1) (wG u (d_print u k).2) := by
  refine MI.of (cc := prog_1_method_23_code) (nL := 3) (by decide) rfl (Nat.le_of_ble_eq_true rfl) ?_
  intro p e s m below meth c A Q K ret
  refine z_lvE (lv' := [(0, .ref (a 0)), (1, .int k)]) rfl ?_
  have hb := hu.1
  refine z_aload_n (pc := 0) K d_D_print_0 rfl ?_
  refine z_get (pc := 1) K (ref := "DemandTerms") d_D_print_1 hi_D 0 rfl rfl 3 (by decide) k113 rfl rfl ?_
  refine z_iload_n (pc := 4) K d_D_print_4 rfl ?_
  refine z_cVi (pc := 5) K 12 (c_C_has _ _ ) (cwA K 1 k346 k261 k262 k5 k263 q_C_has ⟨Nat.le_of_ble_eq_true rfl, Nat.le_of_ble_eq_true rfl⟩) d_D_print_5 rfl rfl rfl rfl rfl (Nat.le_of_ble_eq_true rfl) ⟨Nat.le_of_ble_eq_true rfl, Nat.le_of_ble_eq_true rfl⟩ ?_
  refine z_ifb_ne (pc := 8) K (tgt := 13) d_D_print_8 (by decide) (fun c8 => ?_) (fun c8 => ?_)
  · refine z_aload_n (pc := 13) K d_D_print_13 rfl ?_
    refine z_get (pc := 14) K (ref := "DemandTerms") d_D_print_14 hi_D 0 rfl rfl 5 (by decide) k115 rfl rfl ?_
    refine z_cVv (pc := 17) K 18 (c_G_clear _ ) (cwA K 0 k430 k431 k432 k6 k433 q_G_clear ⟨Nat.le_of_ble_eq_true rfl, Nat.le_of_ble_eq_true rfl⟩) d_D_print_17 rfl rfl rfl rfl rfl (Nat.le_of_ble_eq_true rfl) ⟨Nat.le_of_ble_eq_true rfl, Nat.le_of_ble_eq_true rfl⟩ ?_
    refine z_iconst (pc := 20) K (v := 0) d_D_print_20 (by decide) ?_
    refine z_istore_n (pc := 21) K d_D_print_21 rfl (by decide) rfl ?_
    have LP : ∀ (n i : Nat) (g : GS), i + n = (uN u).1 → uOk (wG u g) → d_prl u k n i g = d_prl u k (uN u).1 0 (0, (uG u).2) → zW p l e { frames := 4, cells := 0, slots := 0, locals := 93 } s m [.ref (a 0), .int k].toArray below meth c D vwCl A 3 0 0 Q (CW a cI cJ cC (wG u g)) 22 [(2, .int (nI i)), (0, .ref (a 0)), (1, .int k)] [] := by
      intro n
      induction n with
      | zero =>
        intro i g hi hg hf
        refine z_iload_n (pc := 22) K d_D_print_22 rfl ?_
        refine z_aload_n (pc := 23) K d_D_print_23 rfl ?_
        refine z_get (pc := 24) K (ref := "DemandTerms") d_D_print_24 hi_D 0 rfl rfl 0 (by decide) k110 rfl rfl ?_
        refine z_cVi (pc := 27) K 1 (c_N_size _ ) (cwA K 0 k325 k326 k327 k2 k328 q_N_size ⟨Nat.le_of_ble_eq_true rfl, Nat.le_of_ble_eq_true rfl⟩) d_D_print_27 rfl rfl rfl rfl rfl (Nat.le_of_ble_eq_true rfl) ⟨Nat.le_of_ble_eq_true rfl, Nat.le_of_ble_eq_true rfl⟩ ?_
        refine z_icmp_ge (pc := 30) K (tgt := 65) d_D_print_30 (by decide) (fun c30 => ?_) (fun c30 => ?_)
        · refine z_aload_n (pc := 65) K d_D_print_65 rfl ?_
          refine z_get (pc := 66) K (ref := "DemandTerms") d_D_print_66 hi_D 0 rfl rfl 5 (by decide) k115 rfl rfl ?_
          refine z_cVi (pc := 69) K 18 (c_G_length _ ) (cwA K 0 k438 k439 k440 k6 k441 q_G_length ⟨Nat.le_of_ble_eq_true rfl, Nat.le_of_ble_eq_true rfl⟩) d_D_print_69 rfl rfl rfl rfl rfl (Nat.le_of_ble_eq_true rfl) ⟨Nat.le_of_ble_eq_true rfl, Nat.le_of_ble_eq_true rfl⟩ ?_
          exact z_reti (pc := 72) ret d_D_print_72 (by rw [d_print, if_pos c8, ← hf] <;> rfl) (by rw [d_print, if_pos c8, ← hf] <;> rfl)
        · exact absurd (nI_le (a := (uN u).1) (b := i) (by omega) (by omega)) c30
      | succ n ih =>
        intro i g hi hg hf
        refine z_iload_n (pc := 22) K d_D_print_22 rfl ?_
        refine z_aload_n (pc := 23) K d_D_print_23 rfl ?_
        refine z_get (pc := 24) K (ref := "DemandTerms") d_D_print_24 hi_D 0 rfl rfl 0 (by decide) k110 rfl rfl ?_
        refine z_cVi (pc := 27) K 1 (c_N_size _ ) (cwA K 0 k325 k326 k327 k2 k328 q_N_size ⟨Nat.le_of_ble_eq_true rfl, Nat.le_of_ble_eq_true rfl⟩) d_D_print_27 rfl rfl rfl rfl rfl (Nat.le_of_ble_eq_true rfl) ⟨Nat.le_of_ble_eq_true rfl, Nat.le_of_ble_eq_true rfl⟩ ?_
        refine z_icmp_ge (pc := 30) K (tgt := 65) d_D_print_30 (by decide) (fun c30 => ?_) (fun c30 => ?_)
        · exact absurd c30 (nI_ge (a := i) (b := (uN u).1) (by omega) (by omega))
        · refine z_aload_n (pc := 33) K d_D_print_33 rfl ?_
          refine z_get (pc := 34) K (ref := "DemandTerms") d_D_print_34 hi_D 0 rfl rfl 3 (by decide) k113 rfl rfl ?_
          refine z_iload_n (pc := 37) K d_D_print_37 rfl ?_
          refine z_iload_n (pc := 38) K d_D_print_38 rfl ?_
          refine z_cVi (pc := 39) K 12 (c_C_holds (wG u g) _ _ hg) (cwA K 2 k321 k322 k323 k5 k324 q_C_holds ⟨Nat.le_of_ble_eq_true rfl, Nat.le_of_ble_eq_true rfl⟩) d_D_print_39 rfl rfl rfl rfl rfl (Nat.le_of_ble_eq_true rfl) ⟨Nat.le_of_ble_eq_true rfl, Nat.le_of_ble_eq_true rfl⟩ ?_
          refine z_ifb_eq (pc := 42) K (tgt := 59) d_D_print_42 (by decide) (fun c42 => ?_) (fun c42 => ?_)
          · refine z_iinc (pc := 59) K (v := nI (i + 1)) d_D_print_59 0 rfl (inc1 i) (by decide) rfl ?_
            refine z_goto (pc := 62) K (tgt := 22) d_D_print_62 (by decide) ?_
            refine z_lv [0, 1, 2] rfl ?_
            exact ih (i + 1) _ (by omega) hg (by rw [← hf, d_prl, if_neg (by rw [c42]; decide)] <;> rfl)
          · refine z_aload_n (pc := 45) K d_D_print_45 rfl ?_
            refine z_iload_n (pc := 46) K d_D_print_46 rfl ?_
            refine z_aload_n (pc := 47) K d_D_print_47 rfl ?_
            refine z_get (pc := 48) K (ref := "DemandTerms") d_D_print_48 hi_D 0 rfl rfl 3 (by decide) k113 rfl rfl ?_
            refine z_iload_n (pc := 51) K d_D_print_51 rfl ?_
            refine z_iload_n (pc := 52) K d_D_print_52 rfl ?_
            refine z_cVl (pc := 53) K 12 (c_C_placesOf (wG u g) _ _ hg) (cwA K 2 k333 k334 k335 k5 k336 q_C_placesOf ⟨Nat.le_of_ble_eq_true rfl, Nat.le_of_ble_eq_true rfl⟩) d_D_print_53 rfl rfl rfl rfl rfl (Nat.le_of_ble_eq_true rfl) ⟨Nat.le_of_ble_eq_true rfl, Nat.le_of_ble_eq_true rfl⟩ ?_
            refine z_cVv (pc := 56) K 0 (c_D_printPart (wG u g) _ _ hg) (cwA K 2 k434 k436 ks11 k1 k437 q_D_printPart ⟨Nat.le_of_ble_eq_true rfl, Nat.le_of_ble_eq_true rfl⟩) d_D_print_56 rfl rfl rfl rfl rfl (Nat.le_of_ble_eq_true rfl) ⟨Nat.le_of_ble_eq_true rfl, Nat.le_of_ble_eq_true rfl⟩ ?_
            refine z_iinc (pc := 59) K (v := nI (i + 1)) d_D_print_59 0 rfl (inc1 i) (by decide) rfl ?_
            refine z_goto (pc := 62) K (tgt := 22) d_D_print_62 (by decide) ?_
            refine z_lv [0, 1, 2] rfl ?_
            exact ih (i + 1) _ (by omega) (ok_pr _ _ hg) (by rw [← hf, d_prl, if_pos c42] <;> rfl)
    refine z_lv [0, 1, 2] rfl ?_
    exact LP (uN u).1 0 (0, (uG u).2) (by omega) (ok_g0 hu) rfl
  · refine z_iconst (pc := 11) K (v := (-1)) d_D_print_11 (by decide) ?_
    exact z_reti (pc := 12) ret d_D_print_12 (by rw [d_print, if_neg (by rw [c8]; decide)] <;> rfl) (by rw [d_print, if_neg (by rw [c8]; decide)] <;> rfl)
set_option maxRecDepth 100000 in
set_option maxHeartbeats 4000000 in
theorem c_D_at (u : US) (i : Int32) (hu : uOk u) : MI l D vwCl (CT cI cJ cC cZ) (CW a cI cJ cC) y_D_at (wA y_D_at prog_1_method_24_code 2 (some .int)) { frames := 1, cells := 0, slots := 0, locals := 21 } [.ref (a 0), .int i] u (g_at (uG u) i) (u) := by
  refine MI.of (cc := prog_1_method_24_code) (nL := 2) (by decide) rfl (Nat.le_of_ble_eq_true rfl) ?_
  intro p e s m below meth c A Q K ret
  refine z_lvE (lv' := [(0, .ref (a 0)), (1, .int i)]) rfl ?_
  refine z_aload_n (pc := 0) K d_D_at_0 rfl ?_
  refine z_get (pc := 1) K (ref := "DemandTerms") d_D_at_1 hi_D 0 rfl rfl 5 (by decide) k115 rfl rfl ?_
  refine z_iload_n (pc := 4) K d_D_at_4 rfl ?_
  refine z_cVi (pc := 5) K 18 (c_G_signAt _ _ hu) (cwA K 1 k461 k462 k463 k6 k464 q_G_signAt ⟨Nat.le_of_ble_eq_true rfl, Nat.le_of_ble_eq_true rfl⟩) d_D_at_5 rfl rfl rfl rfl rfl (Nat.le_of_ble_eq_true rfl) ⟨Nat.le_of_ble_eq_true rfl, Nat.le_of_ble_eq_true rfl⟩ ?_
  exact z_reti (pc := 8) ret d_D_at_8 rfl rfl
end CM
section CM
variable {l : Launch} {D : va_G} {a : Nat → Nat} {cI cJ cC cZ : ClassId}
set_option maxRecDepth 100000 in
set_option maxHeartbeats 4000000 in
theorem c_D_versions (u : US) (k : Int32) (hu : uOk u) : MI l D vwCl (CT cI cJ cC cZ) (CW a cI cJ cC) y_D_versions (wA y_D_versions prog_1_method_2_code 3 (some .int)) { frames := 2, cells := 0, slots := 0, locals := 42 } [.ref (a 0), .int k] u ((d_ver u k).1) ((d_ver u k).2) := by
  refine MI.of (cc := prog_1_method_2_code) (nL := 3) (by decide) rfl (Nat.le_of_ble_eq_true rfl) ?_
  intro p e s m below meth c A Q K ret
  refine z_lvE (lv' := [(0, .ref (a 0)), (1, .int k)]) rfl ?_
  refine z_aload_n (pc := 0) K d_D_versions_0 rfl ?_
  refine z_get (pc := 1) K (ref := "DemandTerms") d_D_versions_1 hi_D 0 rfl rfl 0 (by decide) k110 rfl rfl ?_
  refine z_iload_n (pc := 4) K d_D_versions_4 rfl ?_
  refine z_cVi (pc := 5) K 1 (c_N_add _ _ hu) (cwA K 1 k133 k134 k135 k2 k136 q_N_add ⟨Nat.le_of_ble_eq_true rfl, Nat.le_of_ble_eq_true rfl⟩) d_D_versions_5 rfl rfl rfl rfl rfl (Nat.le_of_ble_eq_true rfl) ⟨Nat.le_of_ble_eq_true rfl, Nat.le_of_ble_eq_true rfl⟩ ?_
  by_cases h3 : n_addOk (uN u) k = true
  · refine z_ws (ws' := CW a cI cJ cC (wN u (n_addS (uN u) k))) (by rw [n_add, if_pos h3]) ?_
    refine z_eqi (y := nI (uN u).1) (by rw [n_add, if_pos h3]) ?_
    have hlt := n_addOk_lt hu h3
    refine z_istore_n (pc := 8) K d_D_versions_8 rfl (by decide) rfl ?_
    refine z_iload_n (pc := 9) K d_D_versions_9 rfl ?_
    refine z_iconst (pc := 10) K (v := (-1)) d_D_versions_10 (by decide) ?_
    refine z_icmp_eq (pc := 11) K (tgt := 28) d_D_versions_11 (by decide) (fun c11 => ?_) (fun c11 => ?_)
    · exact absurd c11 (nI_ne_m1 (by omega))
    · refine z_aload_n (pc := 14) K d_D_versions_14 rfl ?_
      refine z_get (pc := 15) K (ref := "DemandTerms") d_D_versions_15 hi_D 0 rfl rfl 4 (by decide) k114 rfl rfl ?_
      refine z_iload_n (pc := 18) K d_D_versions_18 rfl ?_
      refine z_aload_n (pc := 19) K d_D_versions_19 rfl ?_
      refine z_get (pc := 20) K (ref := "DemandTerms") d_D_versions_20 hi_D 0 rfl rfl 0 (by decide) k110 rfl rfl ?_
      refine z_iload_n (pc := 23) K d_D_versions_23 rfl ?_
      refine z_cVl (pc := 24) K 1 (c_N_everywhere (wN u (n_addS (uN u) k)) _ (ok_nadds h3 hu)) (cwA K 1 k138 k139 k140 k2 k141 q_N_everywhere ⟨Nat.le_of_ble_eq_true rfl, Nat.le_of_ble_eq_true rfl⟩) d_D_versions_24 rfl rfl rfl rfl rfl (Nat.le_of_ble_eq_true rfl) ⟨Nat.le_of_ble_eq_true rfl, Nat.le_of_ble_eq_true rfl⟩ ?_
      refine z_last (pc := 27) K (ws' := (CW a cI cJ cC (wH (wN u (n_addS (uN u) k)) (vp_updL (uH u) (nI (uN u).1).toNatClampNeg (n_ev (n_addS (uN u) k) (nI (uN u).1)))))) d_D_versions_27 17 1 rfl rfl (vp_in_nI hlt (by decide)) rfl ?_
      refine z_iload_n (pc := 28) K d_D_versions_28 rfl ?_
      exact z_reti (pc := 29) ret d_D_versions_29 (by rw [d_ver, if_pos h3] <;> rfl) (by rw [d_ver, if_pos h3, nI_clamp (show (uN u).1 < 2 ^ 31 by omega)] <;> rfl)
  · refine z_ws (ws' := CW a cI cJ cC u) (by rw [n_add, if_neg h3] <;> rfl) ?_
    refine z_eqi (y := -1) (by rw [n_add, if_neg h3]) ?_
    refine z_istore_n (pc := 8) K d_D_versions_8 rfl (by decide) rfl ?_
    refine z_iload_n (pc := 9) K d_D_versions_9 rfl ?_
    refine z_iconst (pc := 10) K (v := (-1)) d_D_versions_10 (by decide) ?_
    refine z_icmp_eq (pc := 11) K (tgt := 28) d_D_versions_11 (by decide) (fun c11 => ?_) (fun c11 => ?_)
    · refine z_iload_n (pc := 28) K d_D_versions_28 rfl ?_
      exact z_reti (pc := 29) ret d_D_versions_29 (by rw [d_ver, if_neg h3] <;> rfl) (by rw [d_ver, if_neg h3] <;> rfl)
    · exact absurd rfl c11
set_option maxRecDepth 100000 in
set_option maxHeartbeats 4000000 in
theorem c_D_term (u : US) (x : Int32) (set : Int64) (w : Int32) (hu : uOk u) : MI l D vwCl (CT cI cJ cC cZ) (CW a cI cJ cC) y_D_term (wA y_D_term prog_1_method_3_code 5 (some .int)) { frames := 3, cells := 0, slots := 0, locals := 68 } [.ref (a 0), .int x, .long set, .int w] u ((d_term u x set w).1) (wT u (d_term u x set w).2) := by
  refine MI.of (cc := prog_1_method_3_code) (nL := 5) (by decide) rfl (Nat.le_of_ble_eq_true rfl) ?_
  intro p e s m below meth c A Q K ret
  refine z_lvE (lv' := [(0, .ref (a 0)), (1, .int x), (2, .long set), (4, .int w)]) rfl ?_
  refine z_aload_n (pc := 0) K d_D_term_0 rfl ?_
  refine z_get (pc := 1) K (ref := "DemandTerms") d_D_term_1 hi_D 0 rfl rfl 0 (by decide) k110 rfl rfl ?_
  refine z_iload_n (pc := 4) K d_D_term_4 rfl ?_
  refine z_cVi (pc := 5) K 1 (c_N_has _ _ ) (cwA K 1 k150 k143 k144 k2 k145 q_N_has ⟨Nat.le_of_ble_eq_true rfl, Nat.le_of_ble_eq_true rfl⟩) d_D_term_5 rfl rfl rfl rfl rfl (Nat.le_of_ble_eq_true rfl) ⟨Nat.le_of_ble_eq_true rfl, Nat.le_of_ble_eq_true rfl⟩ ?_
  refine z_ifb_ne (pc := 8) K (tgt := 13) d_D_term_8 (by decide) (fun c8 => ?_) (fun c8 => ?_)
  · refine z_aload_n (pc := 13) K d_D_term_13 rfl ?_
    refine z_get (pc := 14) K (ref := "DemandTerms") d_D_term_14 hi_D 0 rfl rfl 1 (by decide) k111 rfl rfl ?_
    refine z_iload_n (pc := 17) K d_D_term_17 rfl ?_
    refine z_aload_n (pc := 18) K d_D_term_18 rfl ?_
    refine z_get (pc := 19) K (ref := "DemandTerms") d_D_term_19 hi_D 0 rfl rfl 0 (by decide) k110 rfl rfl ?_
    refine z_iload_n (pc := 22) K d_D_term_22 rfl ?_
    refine z_lload_n (pc := 23) K d_D_term_23 rfl ?_
    refine z_iload (pc := 24) K d_D_term_24 rfl ?_
    refine z_cVl (pc := 26) K 1 (c_N_placesOf _ _ _ _ hu) (cwA K 3 k151 k152 k153 k2 k154 q_N_placesOf ⟨Nat.le_of_ble_eq_true rfl, Nat.le_of_ble_eq_true rfl⟩) d_D_term_26 rfl rfl rfl rfl rfl (Nat.le_of_ble_eq_true rfl) ⟨Nat.le_of_ble_eq_true rfl, Nat.le_of_ble_eq_true rfl⟩ ?_
    refine z_cVi (pc := 29) K 3 (c_T_add _ _ _ hu) (cwA K 2 k157 k158 k159 k3 k160 q_T_add ⟨Nat.le_of_ble_eq_true rfl, Nat.le_of_ble_eq_true rfl⟩) d_D_term_29 rfl rfl rfl rfl rfl (Nat.le_of_ble_eq_true rfl) ⟨Nat.le_of_ble_eq_true rfl, Nat.le_of_ble_eq_true rfl⟩ ?_
    exact z_reti (pc := 32) ret d_D_term_32 (by rw [d_term, if_pos c8] <;> rfl) (by rw [d_term, if_pos c8] <;> rfl)
  · refine z_iconst (pc := 11) K (v := (-1)) d_D_term_11 (by decide) ?_
    exact z_reti (pc := 12) ret d_D_term_12 (by rw [d_term, if_neg (by rw [c8]; decide)] <;> rfl) (by rw [d_term, if_neg (by rw [c8]; decide)] <;> rfl)
set_option maxRecDepth 100000 in
set_option maxHeartbeats 4000000 in
theorem c_D_both (u : US) (x : Int32) (y : Int32) (w : Int32) (hu : uOk u) : MI l D vwCl (CT cI cJ cC cZ) (CW a cI cJ cC) y_D_both (wA y_D_both prog_1_method_4_code 8 (some .int)) { frames := 2, cells := 0, slots := 0, locals := 42 } [.ref (a 0), .int x, .int y, .int w] u ((d_both u x y w).1) (wT u (d_both u x y w).2) := by
  refine MI.of (cc := prog_1_method_4_code) (nL := 8) (by decide) rfl (Nat.le_of_ble_eq_true rfl) ?_
  intro p e s m below meth c A Q K ret
  refine z_lvE (lv' := [(0, .ref (a 0)), (1, .int x), (2, .int y), (3, .int w)]) rfl ?_
  refine z_aload_n (pc := 0) K d_D_both_0 rfl ?_
  refine z_get (pc := 1) K (ref := "DemandTerms") d_D_both_1 hi_D 0 rfl rfl 1 (by decide) k111 rfl rfl ?_
  refine z_iload_n (pc := 4) K d_D_both_4 rfl ?_
  refine z_cVi (pc := 5) K 3 (c_T_has _ _ ) (cwA K 1 k165 k166 k167 k3 k168 q_T_has ⟨Nat.le_of_ble_eq_true rfl, Nat.le_of_ble_eq_true rfl⟩) d_D_both_5 rfl rfl rfl rfl rfl (Nat.le_of_ble_eq_true rfl) ⟨Nat.le_of_ble_eq_true rfl, Nat.le_of_ble_eq_true rfl⟩ ?_
  refine z_ifb_eq (pc := 8) K (tgt := 41) d_D_both_8 (by decide) (fun c8 => ?_) (fun c8 => ?_)
  · refine z_iconst (pc := 41) K (v := (-1)) d_D_both_41 (by decide) ?_
    exact z_reti (pc := 42) ret d_D_both_42 (by simp [d_both, d_bothOk, c8]) (by simp [d_both, d_bothOk, c8])
  · refine z_aload_n (pc := 11) K d_D_both_11 rfl ?_
    refine z_get (pc := 12) K (ref := "DemandTerms") d_D_both_12 hi_D 0 rfl rfl 1 (by decide) k111 rfl rfl ?_
    refine z_iload_n (pc := 15) K d_D_both_15 rfl ?_
    refine z_cVi (pc := 16) K 3 (c_T_has _ _ ) (cwA K 1 k165 k166 k167 k3 k168 q_T_has ⟨Nat.le_of_ble_eq_true rfl, Nat.le_of_ble_eq_true rfl⟩) d_D_both_16 rfl rfl rfl rfl rfl (Nat.le_of_ble_eq_true rfl) ⟨Nat.le_of_ble_eq_true rfl, Nat.le_of_ble_eq_true rfl⟩ ?_
    refine z_ifb_eq (pc := 19) K (tgt := 41) d_D_both_19 (by decide) (fun c19 => ?_) (fun c19 => ?_)
    · refine z_iconst (pc := 41) K (v := (-1)) d_D_both_41 (by decide) ?_
      exact z_reti (pc := 42) ret d_D_both_42 (by simp [d_both, d_bothOk, c8, c19]) (by simp [d_both, d_bothOk, c8, c19])
    · refine z_aload_n (pc := 22) K d_D_both_22 rfl ?_
      refine z_get (pc := 23) K (ref := "DemandTerms") d_D_both_23 hi_D 0 rfl rfl 1 (by decide) k111 rfl rfl ?_
      refine z_iload_n (pc := 26) K d_D_both_26 rfl ?_
      refine z_cVi (pc := 27) K 3 (c_T_nameOf _ _ hu) (cwA K 1 k169 k170 k171 k3 k172 q_T_nameOf ⟨Nat.le_of_ble_eq_true rfl, Nat.le_of_ble_eq_true rfl⟩) d_D_both_27 rfl rfl rfl rfl rfl (Nat.le_of_ble_eq_true rfl) ⟨Nat.le_of_ble_eq_true rfl, Nat.le_of_ble_eq_true rfl⟩ ?_
      refine z_aload_n (pc := 30) K d_D_both_30 rfl ?_
      refine z_get (pc := 31) K (ref := "DemandTerms") d_D_both_31 hi_D 0 rfl rfl 1 (by decide) k111 rfl rfl ?_
      refine z_iload_n (pc := 34) K d_D_both_34 rfl ?_
      refine z_cVi (pc := 35) K 3 (c_T_nameOf _ _ hu) (cwA K 1 k169 k170 k171 k3 k172 q_T_nameOf ⟨Nat.le_of_ble_eq_true rfl, Nat.le_of_ble_eq_true rfl⟩) d_D_both_35 rfl rfl rfl rfl rfl (Nat.le_of_ble_eq_true rfl) ⟨Nat.le_of_ble_eq_true rfl, Nat.le_of_ble_eq_true rfl⟩ ?_
      refine z_icmp_eq (pc := 38) K (tgt := 43) d_D_both_38 (by decide) (fun c38 => ?_) (fun c38 => ?_)
      · have hok : d_bothOk u x y = true := by simp [d_bothOk, c8, c19, c38]
        refine z_aload_n (pc := 43) K d_D_both_43 rfl ?_
        refine z_get (pc := 44) K (ref := "DemandTerms") d_D_both_44 hi_D 0 rfl rfl 1 (by decide) k111 rfl rfl ?_
        refine z_iload_n (pc := 47) K d_D_both_47 rfl ?_
        refine z_cVl (pc := 48) K 3 (c_T_placesOf _ _ hu) (cwA K 1 k174 k175 k176 k3 k177 q_T_placesOf ⟨Nat.le_of_ble_eq_true rfl, Nat.le_of_ble_eq_true rfl⟩) d_D_both_48 rfl rfl rfl rfl rfl (Nat.le_of_ble_eq_true rfl) ⟨Nat.le_of_ble_eq_true rfl, Nat.le_of_ble_eq_true rfl⟩ ?_
        refine z_lstore (pc := 51) K d_D_both_51 (by decide) rfl ?_
        refine z_aload_n (pc := 53) K d_D_both_53 rfl ?_
        refine z_get (pc := 54) K (ref := "DemandTerms") d_D_both_54 hi_D 0 rfl rfl 1 (by decide) k111 rfl rfl ?_
        refine z_iload_n (pc := 57) K d_D_both_57 rfl ?_
        refine z_cVl (pc := 58) K 3 (c_T_placesOf _ _ hu) (cwA K 1 k174 k175 k176 k3 k177 q_T_placesOf ⟨Nat.le_of_ble_eq_true rfl, Nat.le_of_ble_eq_true rfl⟩) d_D_both_58 rfl rfl rfl rfl rfl (Nat.le_of_ble_eq_true rfl) ⟨Nat.le_of_ble_eq_true rfl, Nat.le_of_ble_eq_true rfl⟩ ?_
        refine z_lstore (pc := 61) K d_D_both_61 (by decide) rfl ?_
        refine z_aload_n (pc := 63) K d_D_both_63 rfl ?_
        refine z_get (pc := 64) K (ref := "DemandTerms") d_D_both_64 hi_D 0 rfl rfl 1 (by decide) k111 rfl rfl ?_
        refine z_aload_n (pc := 67) K d_D_both_67 rfl ?_
        refine z_get (pc := 68) K (ref := "DemandTerms") d_D_both_68 hi_D 0 rfl rfl 1 (by decide) k111 rfl rfl ?_
        refine z_iload_n (pc := 71) K d_D_both_71 rfl ?_
        refine z_cVi (pc := 72) K 3 (c_T_nameOf _ _ hu) (cwA K 1 k169 k170 k171 k3 k172 q_T_nameOf ⟨Nat.le_of_ble_eq_true rfl, Nat.le_of_ble_eq_true rfl⟩) d_D_both_72 rfl rfl rfl rfl rfl (Nat.le_of_ble_eq_true rfl) ⟨Nat.le_of_ble_eq_true rfl, Nat.le_of_ble_eq_true rfl⟩ ?_
        refine z_iload_n (pc := 75) K d_D_both_75 rfl ?_
        refine z_if_eq (pc := 76) K (tgt := 87) d_D_both_76 (by decide) (fun c76 => ?_) (fun c76 => ?_)
        · refine z_lload (pc := 87) K d_D_both_87 rfl ?_
          refine z_lload (pc := 89) K d_D_both_89 rfl ?_
          refine z_land (pc := 91) K d_D_both_91 ?_
          refine z_cVi (pc := 92) K 3 (c_T_add _ _ _ hu) (cwA K 2 k157 k158 k159 k3 k160 q_T_add ⟨Nat.le_of_ble_eq_true rfl, Nat.le_of_ble_eq_true rfl⟩) d_D_both_92 rfl rfl rfl rfl rfl (Nat.le_of_ble_eq_true rfl) ⟨Nat.le_of_ble_eq_true rfl, Nat.le_of_ble_eq_true rfl⟩ ?_
          exact z_reti (pc := 95) ret d_D_both_95 (by rw [d_both, if_pos hok, d_bothP, if_pos c76] <;> rfl) (by rw [d_both, if_pos hok, d_bothP, if_pos c76] <;> rfl)
        · refine z_lload (pc := 79) K d_D_both_79 rfl ?_
          refine z_lload (pc := 81) K d_D_both_81 rfl ?_
          refine z_lor (pc := 83) K d_D_both_83 ?_
          refine z_goto (pc := 84) K (tgt := 92) d_D_both_84 (by decide) ?_
          refine z_cVi (pc := 92) K 3 (c_T_add _ _ _ hu) (cwA K 2 k157 k158 k159 k3 k160 q_T_add ⟨Nat.le_of_ble_eq_true rfl, Nat.le_of_ble_eq_true rfl⟩) d_D_both_92 rfl rfl rfl rfl rfl (Nat.le_of_ble_eq_true rfl) ⟨Nat.le_of_ble_eq_true rfl, Nat.le_of_ble_eq_true rfl⟩ ?_
          exact z_reti (pc := 95) ret d_D_both_95 (by rw [d_both, if_pos hok, d_bothP, if_neg c76] <;> rfl) (by rw [d_both, if_pos hok, d_bothP, if_neg c76] <;> rfl)
      · refine z_iconst (pc := 41) K (v := (-1)) d_D_both_41 (by decide) ?_
        exact z_reti (pc := 42) ret d_D_both_42 (by simp [d_both, d_bothOk, c8, c19, c38]) (by simp [d_both, d_bothOk, c8, c19, c38])
set_option maxRecDepth 100000 in
set_option maxHeartbeats 4000000 in
theorem c_D_relate (u : US) (x : Int32) (y : Int32) (hu : uOk u) : MI l D vwCl (CT cI cJ cC cZ) (CW a cI cJ cC) y_D_relate (wA y_D_relate prog_1_method_5_code 5 (some .int)) { frames := 2, cells := 0, slots := 0, locals := 42 } [.ref (a 0), .int x, .int y] u (d_relate u x y) (u) := by
  refine MI.of (cc := prog_1_method_5_code) (nL := 5) (by decide) rfl (Nat.le_of_ble_eq_true rfl) ?_
  intro p e s m below meth c A Q K ret
  refine z_lvE (lv' := [(0, .ref (a 0)), (1, .int x), (2, .int y)]) rfl ?_
  refine z_aload_n (pc := 0) K d_D_relate_0 rfl ?_
  refine z_get (pc := 1) K (ref := "DemandTerms") d_D_relate_1 hi_D 0 rfl rfl 1 (by decide) k111 rfl rfl ?_
  refine z_iload_n (pc := 4) K d_D_relate_4 rfl ?_
  refine z_cVi (pc := 5) K 3 (c_T_has _ _ ) (cwA K 1 k165 k166 k167 k3 k168 q_T_has ⟨Nat.le_of_ble_eq_true rfl, Nat.le_of_ble_eq_true rfl⟩) d_D_relate_5 rfl rfl rfl rfl rfl (Nat.le_of_ble_eq_true rfl) ⟨Nat.le_of_ble_eq_true rfl, Nat.le_of_ble_eq_true rfl⟩ ?_
  refine z_ifb_eq (pc := 8) K (tgt := 22) d_D_relate_8 (by decide) (fun c8 => ?_) (fun c8 => ?_)
  · refine z_bipush (pc := 22) K (v := (-2)) d_D_relate_22 (by decide) ?_
    exact z_reti (pc := 24) ret d_D_relate_24 (by simp [d_relate, c8]) rfl
  · refine z_aload_n (pc := 11) K d_D_relate_11 rfl ?_
    refine z_get (pc := 12) K (ref := "DemandTerms") d_D_relate_12 hi_D 0 rfl rfl 1 (by decide) k111 rfl rfl ?_
    refine z_iload_n (pc := 15) K d_D_relate_15 rfl ?_
    refine z_cVi (pc := 16) K 3 (c_T_has _ _ ) (cwA K 1 k165 k166 k167 k3 k168 q_T_has ⟨Nat.le_of_ble_eq_true rfl, Nat.le_of_ble_eq_true rfl⟩) d_D_relate_16 rfl rfl rfl rfl rfl (Nat.le_of_ble_eq_true rfl) ⟨Nat.le_of_ble_eq_true rfl, Nat.le_of_ble_eq_true rfl⟩ ?_
    refine z_ifb_ne (pc := 19) K (tgt := 25) d_D_relate_19 (by decide) (fun c19 => ?_) (fun c19 => ?_)
    · refine z_aload_n (pc := 25) K d_D_relate_25 rfl ?_
      refine z_get (pc := 26) K (ref := "DemandTerms") d_D_relate_26 hi_D 0 rfl rfl 1 (by decide) k111 rfl rfl ?_
      refine z_iload_n (pc := 29) K d_D_relate_29 rfl ?_
      refine z_cVl (pc := 30) K 3 (c_T_placesOf _ _ hu) (cwA K 1 k174 k175 k176 k3 k177 q_T_placesOf ⟨Nat.le_of_ble_eq_true rfl, Nat.le_of_ble_eq_true rfl⟩) d_D_relate_30 rfl rfl rfl rfl rfl (Nat.le_of_ble_eq_true rfl) ⟨Nat.le_of_ble_eq_true rfl, Nat.le_of_ble_eq_true rfl⟩ ?_
      refine z_lstore_n (pc := 33) K d_D_relate_33 rfl (by decide) rfl ?_
      refine z_lload_n (pc := 34) K d_D_relate_34 rfl ?_
      refine z_lconst (pc := 35) K (v := 0) d_D_relate_35 (by decide) ?_
      refine z_lcmp (pc := 36) K d_D_relate_36 ?_
      refine z_ifl_eq (pc := 37) K (tgt := 61) d_D_relate_37 (by decide) (fun c37 => ?_) (fun c37 => ?_)
      · refine z_lload_n (pc := 61) K d_D_relate_61 rfl ?_
        refine z_aload_n (pc := 62) K d_D_relate_62 rfl ?_
        refine z_get (pc := 63) K (ref := "DemandTerms") d_D_relate_63 hi_D 0 rfl rfl 1 (by decide) k111 rfl rfl ?_
        refine z_iload_n (pc := 66) K d_D_relate_66 rfl ?_
        refine z_cVl (pc := 67) K 3 (c_T_placesOf _ _ hu) (cwA K 1 k174 k175 k176 k3 k177 q_T_placesOf ⟨Nat.le_of_ble_eq_true rfl, Nat.le_of_ble_eq_true rfl⟩) d_D_relate_67 rfl rfl rfl rfl rfl (Nat.le_of_ble_eq_true rfl) ⟨Nat.le_of_ble_eq_true rfl, Nat.le_of_ble_eq_true rfl⟩ ?_
        refine z_cSi (pc := 70) K (c_D_relation _ _ _ ) (cwSA K 2 k182 k183 k1 k184 q_D_relation.2 ⟨Nat.le_of_ble_eq_true rfl, Nat.le_of_ble_eq_true rfl⟩) d_D_relate_70 rfl rfl (Nat.le_of_ble_eq_true rfl) ⟨Nat.le_of_ble_eq_true rfl, Nat.le_of_ble_eq_true rfl⟩ ?_
        exact z_reti (pc := 73) ret d_D_relate_73 (by simp [d_relate, c8, c19, c37]) rfl
      · refine z_aload_n (pc := 40) K d_D_relate_40 rfl ?_
        refine z_get (pc := 41) K (ref := "DemandTerms") d_D_relate_41 hi_D 0 rfl rfl 1 (by decide) k111 rfl rfl ?_
        refine z_iload_n (pc := 44) K d_D_relate_44 rfl ?_
        refine z_cVi (pc := 45) K 3 (c_T_nameOf _ _ hu) (cwA K 1 k169 k170 k171 k3 k172 q_T_nameOf ⟨Nat.le_of_ble_eq_true rfl, Nat.le_of_ble_eq_true rfl⟩) d_D_relate_45 rfl rfl rfl rfl rfl (Nat.le_of_ble_eq_true rfl) ⟨Nat.le_of_ble_eq_true rfl, Nat.le_of_ble_eq_true rfl⟩ ?_
        refine z_aload_n (pc := 48) K d_D_relate_48 rfl ?_
        refine z_get (pc := 49) K (ref := "DemandTerms") d_D_relate_49 hi_D 0 rfl rfl 1 (by decide) k111 rfl rfl ?_
        refine z_iload_n (pc := 52) K d_D_relate_52 rfl ?_
        refine z_cVi (pc := 53) K 3 (c_T_nameOf _ _ hu) (cwA K 1 k169 k170 k171 k3 k172 q_T_nameOf ⟨Nat.le_of_ble_eq_true rfl, Nat.le_of_ble_eq_true rfl⟩) d_D_relate_53 rfl rfl rfl rfl rfl (Nat.le_of_ble_eq_true rfl) ⟨Nat.le_of_ble_eq_true rfl, Nat.le_of_ble_eq_true rfl⟩ ?_
        refine z_icmp_eq (pc := 56) K (tgt := 61) d_D_relate_56 (by decide) (fun c56 => ?_) (fun c56 => ?_)
        · refine z_lload_n (pc := 61) K d_D_relate_61 rfl ?_
          refine z_aload_n (pc := 62) K d_D_relate_62 rfl ?_
          refine z_get (pc := 63) K (ref := "DemandTerms") d_D_relate_63 hi_D 0 rfl rfl 1 (by decide) k111 rfl rfl ?_
          refine z_iload_n (pc := 66) K d_D_relate_66 rfl ?_
          refine z_cVl (pc := 67) K 3 (c_T_placesOf _ _ hu) (cwA K 1 k174 k175 k176 k3 k177 q_T_placesOf ⟨Nat.le_of_ble_eq_true rfl, Nat.le_of_ble_eq_true rfl⟩) d_D_relate_67 rfl rfl rfl rfl rfl (Nat.le_of_ble_eq_true rfl) ⟨Nat.le_of_ble_eq_true rfl, Nat.le_of_ble_eq_true rfl⟩ ?_
          refine z_cSi (pc := 70) K (c_D_relation _ _ _ ) (cwSA K 2 k182 k183 k1 k184 q_D_relation.2 ⟨Nat.le_of_ble_eq_true rfl, Nat.le_of_ble_eq_true rfl⟩) d_D_relate_70 rfl rfl (Nat.le_of_ble_eq_true rfl) ⟨Nat.le_of_ble_eq_true rfl, Nat.le_of_ble_eq_true rfl⟩ ?_
          exact z_reti (pc := 73) ret d_D_relate_73 (by simp [d_relate, c8, c19, c37, c56]) rfl
        · refine z_iconst (pc := 59) K (v := 0) d_D_relate_59 (by decide) ?_
          exact z_reti (pc := 60) ret d_D_relate_60 (by simp [d_relate, c8, c19, c37, c56]) rfl
    · refine z_bipush (pc := 22) K (v := (-2)) d_D_relate_22 (by decide) ?_
      exact z_reti (pc := 24) ret d_D_relate_24 (by simp [d_relate, c8, c19]) rfl
set_option maxRecDepth 100000 in
set_option maxHeartbeats 4000000 in
theorem c_D_about (u : US) (x : Int32) (w : Int32) (hu : uOk u) : MI l D vwCl (CT cI cJ cC cZ) (CW a cI cJ cC) y_D_about (wA y_D_about prog_1_method_6_code 3 (some .int)) { frames := 4, cells := 0, slots := 0, locals := 89 } [.ref (a 0), .int x, .int w] u (d_about u x w) (u) := by
  refine MI.of (cc := prog_1_method_6_code) (nL := 3) (by decide) rfl (Nat.le_of_ble_eq_true rfl) ?_
  intro p e s m below meth c A Q K ret
  refine z_lvE (lv' := [(0, .ref (a 0)), (1, .int x), (2, .int w)]) rfl ?_
  refine z_aload_n (pc := 0) K d_D_about_0 rfl ?_
  refine z_get (pc := 1) K (ref := "DemandTerms") d_D_about_1 hi_D 0 rfl rfl 1 (by decide) k111 rfl rfl ?_
  refine z_iload_n (pc := 4) K d_D_about_4 rfl ?_
  refine z_cVi (pc := 5) K 3 (c_T_has _ _ ) (cwA K 1 k165 k166 k167 k3 k168 q_T_has ⟨Nat.le_of_ble_eq_true rfl, Nat.le_of_ble_eq_true rfl⟩) d_D_about_5 rfl rfl rfl rfl rfl (Nat.le_of_ble_eq_true rfl) ⟨Nat.le_of_ble_eq_true rfl, Nat.le_of_ble_eq_true rfl⟩ ?_
  refine z_ifb_ne (pc := 8) K (tgt := 13) d_D_about_8 (by decide) (fun c8 => ?_) (fun c8 => ?_)
  · refine z_aload_n (pc := 13) K d_D_about_13 rfl ?_
    refine z_aload_n (pc := 14) K d_D_about_14 rfl ?_
    refine z_get (pc := 15) K (ref := "DemandTerms") d_D_about_15 hi_D 0 rfl rfl 1 (by decide) k111 rfl rfl ?_
    refine z_iload_n (pc := 18) K d_D_about_18 rfl ?_
    refine z_cVi (pc := 19) K 3 (c_T_nameOf _ _ hu) (cwA K 1 k169 k170 k171 k3 k172 q_T_nameOf ⟨Nat.le_of_ble_eq_true rfl, Nat.le_of_ble_eq_true rfl⟩) d_D_about_19 rfl rfl rfl rfl rfl (Nat.le_of_ble_eq_true rfl) ⟨Nat.le_of_ble_eq_true rfl, Nat.le_of_ble_eq_true rfl⟩ ?_
    refine z_aload_n (pc := 22) K d_D_about_22 rfl ?_
    refine z_get (pc := 23) K (ref := "DemandTerms") d_D_about_23 hi_D 0 rfl rfl 1 (by decide) k111 rfl rfl ?_
    refine z_iload_n (pc := 26) K d_D_about_26 rfl ?_
    refine z_cVl (pc := 27) K 3 (c_T_placesOf _ _ hu) (cwA K 1 k174 k175 k176 k3 k177 q_T_placesOf ⟨Nat.le_of_ble_eq_true rfl, Nat.le_of_ble_eq_true rfl⟩) d_D_about_27 rfl rfl rfl rfl rfl (Nat.le_of_ble_eq_true rfl) ⟨Nat.le_of_ble_eq_true rfl, Nat.le_of_ble_eq_true rfl⟩ ?_
    refine z_iload_n (pc := 30) K d_D_about_30 rfl ?_
    refine z_cVi (pc := 31) K 0 (c_D_describe _ _ _ _ hu) (cwA K 3 k190 k192 ks0 k1 k193 q_D_describe ⟨Nat.le_of_ble_eq_true rfl, Nat.le_of_ble_eq_true rfl⟩) d_D_about_31 rfl rfl rfl rfl rfl (Nat.le_of_ble_eq_true rfl) ⟨Nat.le_of_ble_eq_true rfl, Nat.le_of_ble_eq_true rfl⟩ ?_
    exact z_reti (pc := 34) ret d_D_about_34 (by simp [d_about, c8]) rfl
  · refine z_iconst (pc := 11) K (v := (-1)) d_D_about_11 (by decide) ?_
    exact z_reti (pc := 12) ret d_D_about_12 (by simp [d_about, c8]) rfl
set_option maxRecDepth 100000 in
set_option maxHeartbeats 4000000 in
theorem c_D_set (u : US) (x : Int32) (hu : uOk u) : ML l D vwCl (CT cI cJ cC cZ) (CW a cI cJ cC) y_D_set (wA y_D_set prog_1_method_7_code 2 (some .long)) { frames := 3, cells := 0, slots := 0, locals := 65 } [.ref (a 0), .int x] u (d_set u x) (u) := by
  refine ML.of (cc := prog_1_method_7_code) (nL := 2) (by decide) rfl (Nat.le_of_ble_eq_true rfl) ?_
  intro p e s m below meth c A Q K ret
  refine z_lvE (lv' := [(0, .ref (a 0)), (1, .int x)]) rfl ?_
  refine z_aload_n (pc := 0) K d_D_set_0 rfl ?_
  refine z_get (pc := 1) K (ref := "DemandTerms") d_D_set_1 hi_D 0 rfl rfl 1 (by decide) k111 rfl rfl ?_
  refine z_iload_n (pc := 4) K d_D_set_4 rfl ?_
  refine z_cVi (pc := 5) K 3 (c_T_has _ _ ) (cwA K 1 k165 k166 k167 k3 k168 q_T_has ⟨Nat.le_of_ble_eq_true rfl, Nat.le_of_ble_eq_true rfl⟩) d_D_set_5 rfl rfl rfl rfl rfl (Nat.le_of_ble_eq_true rfl) ⟨Nat.le_of_ble_eq_true rfl, Nat.le_of_ble_eq_true rfl⟩ ?_
  refine z_ifb_ne (pc := 8) K (tgt := 13) d_D_set_8 (by decide) (fun c8 => ?_) (fun c8 => ?_)
  · refine z_aload_n (pc := 13) K d_D_set_13 rfl ?_
    refine z_get (pc := 14) K (ref := "DemandTerms") d_D_set_14 hi_D 0 rfl rfl 0 (by decide) k110 rfl rfl ?_
    refine z_aload_n (pc := 17) K d_D_set_17 rfl ?_
    refine z_get (pc := 18) K (ref := "DemandTerms") d_D_set_18 hi_D 0 rfl rfl 1 (by decide) k111 rfl rfl ?_
    refine z_iload_n (pc := 21) K d_D_set_21 rfl ?_
    refine z_cVi (pc := 22) K 3 (c_T_nameOf _ _ hu) (cwA K 1 k169 k170 k171 k3 k172 q_T_nameOf ⟨Nat.le_of_ble_eq_true rfl, Nat.le_of_ble_eq_true rfl⟩) d_D_set_22 rfl rfl rfl rfl rfl (Nat.le_of_ble_eq_true rfl) ⟨Nat.le_of_ble_eq_true rfl, Nat.le_of_ble_eq_true rfl⟩ ?_
    refine z_aload_n (pc := 25) K d_D_set_25 rfl ?_
    refine z_get (pc := 26) K (ref := "DemandTerms") d_D_set_26 hi_D 0 rfl rfl 1 (by decide) k111 rfl rfl ?_
    refine z_iload_n (pc := 29) K d_D_set_29 rfl ?_
    refine z_cVl (pc := 30) K 3 (c_T_placesOf _ _ hu) (cwA K 1 k174 k175 k176 k3 k177 q_T_placesOf ⟨Nat.le_of_ble_eq_true rfl, Nat.le_of_ble_eq_true rfl⟩) d_D_set_30 rfl rfl rfl rfl rfl (Nat.le_of_ble_eq_true rfl) ⟨Nat.le_of_ble_eq_true rfl, Nat.le_of_ble_eq_true rfl⟩ ?_
    refine z_cVl (pc := 33) K 1 (c_N_setOf _ _ _ hu) (cwA K 2 k198 k199 k200 k2 k201 q_N_setOf ⟨Nat.le_of_ble_eq_true rfl, Nat.le_of_ble_eq_true rfl⟩) d_D_set_33 rfl rfl rfl rfl rfl (Nat.le_of_ble_eq_true rfl) ⟨Nat.le_of_ble_eq_true rfl, Nat.le_of_ble_eq_true rfl⟩ ?_
    exact z_retl (pc := 36) ret d_D_set_36 (by simp [d_set, c8]) rfl
  · refine z_lconst (pc := 11) K (v := 0) d_D_set_11 (by decide) ?_
    exact z_retl (pc := 12) ret d_D_set_12 (by simp [d_set, c8]) rfl
set_option maxRecDepth 100000 in
set_option maxHeartbeats 4000000 in
theorem c_D_needs (u : US) (x : Int32) (v : Int32) (o : Int32) (set : Int64) (k : Int32) (hu : uOk u) : MI l D vwCl (CT cI cJ cC cZ) (CW a cI cJ cC) y_D_needs (wA y_D_needs prog_1_method_8_code 7 (some .boolean)) { frames := 3, cells := 0, slots := 0, locals := 68 } [.ref (a 0), .int x, .int v, .int o, .long set, .int k] u (bI ((d_needs u x v o set k).1)) (wR u (d_needs u x v o set k).2) := by
  refine MI.ofZ (cc := prog_1_method_8_code) (nL := 7) (by decide) rfl (Nat.le_of_ble_eq_true rfl) ?_
  intro p e s m below meth c A Q K ret
  refine z_lvE (lv' := [(0, .ref (a 0)), (1, .int x), (2, .int v), (3, .int o), (4, .long set), (6, .int k)]) rfl ?_
  refine z_aload_n (pc := 0) K d_D_needs_0 rfl ?_
  refine z_get (pc := 1) K (ref := "DemandTerms") d_D_needs_1 hi_D 0 rfl rfl 0 (by decide) k110 rfl rfl ?_
  refine z_iload_n (pc := 4) K d_D_needs_4 rfl ?_
  refine z_iload_n (pc := 5) K d_D_needs_5 rfl ?_
  refine z_cVi (pc := 6) K 1 (c_N_hasVersion _ _ _ hu) (cwA K 2 k217 k218 k219 k2 k220 q_N_hasVersion ⟨Nat.le_of_ble_eq_true rfl, Nat.le_of_ble_eq_true rfl⟩) d_D_needs_6 rfl rfl rfl rfl rfl (Nat.le_of_ble_eq_true rfl) ⟨Nat.le_of_ble_eq_true rfl, Nat.le_of_ble_eq_true rfl⟩ ?_
  refine z_ifb_eq (pc := 9) K (tgt := 28) d_D_needs_9 (by decide) (fun c9 => ?_) (fun c9 => ?_)
  · refine z_iconst (pc := 28) K (v := 0) d_D_needs_28 (by decide) ?_
    refine z_eqi (y := bI false) rfl ?_
    exact z_reti (pc := 29) ret d_D_needs_29 (by simp [d_needs, d_needsOk, c9]) (by simp [d_needs, d_needsOk, c9])
  · refine z_aload_n (pc := 12) K d_D_needs_12 rfl ?_
    refine z_get (pc := 13) K (ref := "DemandTerms") d_D_needs_13 hi_D 0 rfl rfl 0 (by decide) k110 rfl rfl ?_
    refine z_iload_n (pc := 16) K d_D_needs_16 rfl ?_
    refine z_cVi (pc := 17) K 1 (c_N_has _ _ ) (cwA K 1 k150 k143 k144 k2 k145 q_N_has ⟨Nat.le_of_ble_eq_true rfl, Nat.le_of_ble_eq_true rfl⟩) d_D_needs_17 rfl rfl rfl rfl rfl (Nat.le_of_ble_eq_true rfl) ⟨Nat.le_of_ble_eq_true rfl, Nat.le_of_ble_eq_true rfl⟩ ?_
    refine z_ifb_eq (pc := 20) K (tgt := 28) d_D_needs_20 (by decide) (fun c20 => ?_) (fun c20 => ?_)
    · refine z_iconst (pc := 28) K (v := 0) d_D_needs_28 (by decide) ?_
      refine z_eqi (y := bI false) rfl ?_
      exact z_reti (pc := 29) ret d_D_needs_29 (by simp [d_needs, d_needsOk, c9, c20]) (by simp [d_needs, d_needsOk, c9, c20])
    · refine z_iload_n (pc := 23) K d_D_needs_23 rfl ?_
      refine z_iload_n (pc := 24) K d_D_needs_24 rfl ?_
      refine z_icmp_ne (pc := 25) K (tgt := 30) d_D_needs_25 (by decide) (fun c25 => ?_) (fun c25 => ?_)
      · refine z_iload (pc := 30) K d_D_needs_30 rfl ?_
        refine z_if_lt (pc := 32) K (tgt := 42) d_D_needs_32 (by decide) (fun c32 => ?_) (fun c32 => ?_)
        · refine z_iconst (pc := 42) K (v := 0) d_D_needs_42 (by decide) ?_
          refine z_eqi (y := bI false) rfl ?_
          exact z_reti (pc := 43) ret d_D_needs_43 (by simp [d_needs, d_needsOk, c9, c20, c25, c32]) (by simp [d_needs, d_needsOk, c9, c20, c25, c32])
        · refine z_iload (pc := 35) K d_D_needs_35 rfl ?_
          refine z_bipush (pc := 37) K (v := 8) d_D_needs_37 (by decide) ?_
          refine z_icmp_lt (pc := 39) K (tgt := 44) d_D_needs_39 (by decide) (fun c39 => ?_) (fun c39 => ?_)
          · have hok : d_needsOk u x v o k = true := by simp [d_needsOk, c9, c20, c25, c32, c39]
            refine z_aload_n (pc := 44) K d_D_needs_44 rfl ?_
            refine z_get (pc := 45) K (ref := "DemandTerms") d_D_needs_45 hi_D 0 rfl rfl 2 (by decide) k112 rfl rfl ?_
            refine z_iload_n (pc := 48) K d_D_needs_48 rfl ?_
            refine z_iload_n (pc := 49) K d_D_needs_49 rfl ?_
            refine z_iload_n (pc := 50) K d_D_needs_50 rfl ?_
            refine z_aload_n (pc := 51) K d_D_needs_51 rfl ?_
            refine z_get (pc := 52) K (ref := "DemandTerms") d_D_needs_52 hi_D 0 rfl rfl 0 (by decide) k110 rfl rfl ?_
            refine z_iload_n (pc := 55) K d_D_needs_55 rfl ?_
            refine z_lload (pc := 56) K d_D_needs_56 rfl ?_
            refine z_iconst (pc := 58) K (v := 1) d_D_needs_58 (by decide) ?_
            refine z_cVl (pc := 59) K 1 (c_N_placesOf _ _ _ _ hu) (cwA K 3 k151 k152 k153 k2 k154 q_N_placesOf ⟨Nat.le_of_ble_eq_true rfl, Nat.le_of_ble_eq_true rfl⟩) d_D_needs_59 rfl rfl rfl rfl rfl (Nat.le_of_ble_eq_true rfl) ⟨Nat.le_of_ble_eq_true rfl, Nat.le_of_ble_eq_true rfl⟩ ?_
            refine z_iload (pc := 62) K d_D_needs_62 rfl ?_
            refine z_cVi (pc := 64) K 6 (c_R_add _ _ _ _ _ _ hu) (cwA K 5 k224 k225 k226 k4 k227 q_R_add ⟨Nat.le_of_ble_eq_true rfl, Nat.le_of_ble_eq_true rfl⟩) d_D_needs_64 rfl rfl rfl rfl rfl (Nat.le_of_ble_eq_true rfl) ⟨Nat.le_of_ble_eq_true rfl, Nat.le_of_ble_eq_true rfl⟩ ?_
            exact z_reti (pc := 67) ret d_D_needs_67 (by rw [d_needs, if_pos hok] <;> rfl) (by rw [d_needs, if_pos hok] <;> rfl)
          · refine z_iconst (pc := 42) K (v := 0) d_D_needs_42 (by decide) ?_
            refine z_eqi (y := bI false) rfl ?_
            exact z_reti (pc := 43) ret d_D_needs_43 (by simp [d_needs, d_needsOk, c9, c20, c25, c32, c39]) (by simp [d_needs, d_needsOk, c9, c20, c25, c32, c39])
      · refine z_iconst (pc := 28) K (v := 0) d_D_needs_28 (by decide) ?_
        refine z_eqi (y := bI false) rfl ?_
        exact z_reti (pc := 29) ret d_D_needs_29 (by simp [d_needs, d_needsOk, c9, c20, c25]) (by simp [d_needs, d_needsOk, c9, c20, c25])
set_option maxRecDepth 100000 in
set_option maxHeartbeats 4000000 in
theorem c_D_derive (u : US) (x : Int32) (v : Int32) (hu : uOk u) (hrv : ∀ i, i < (uR u).1 → ∃ v : Nat, v < 48 ∧ rV (uR u) i = nI v) : MI l D vwCl (CT cI cJ cC cZ) (CW a cI cJ cC) y_D_derive (wA y_D_derive prog_1_method_9_code 5 (some .int)) { frames := 4, cells := 0, slots := 0, locals := 94 } [.ref (a 0), .int x, .int v] u ((d_deriveC u x v).1) (wC u (d_deriveC u x v).2) := by
  refine MI.of (cc := prog_1_method_9_code) (nL := 5) (by decide) rfl (Nat.le_of_ble_eq_true rfl) ?_
  intro p e s m below meth c A Q K ret
  refine z_lvE (lv' := [(0, .ref (a 0)), (1, .int x), (2, .int v)]) rfl ?_
  have hb := hu.2.2.1
  have hb2 := hu.2.2.2.1
  refine z_aload_n (pc := 0) K d_D_derive_0 rfl ?_
  refine z_get (pc := 1) K (ref := "DemandTerms") d_D_derive_1 hi_D 0 rfl rfl 0 (by decide) k110 rfl rfl ?_
  refine z_iload_n (pc := 4) K d_D_derive_4 rfl ?_
  refine z_iload_n (pc := 5) K d_D_derive_5 rfl ?_
  refine z_cVi (pc := 6) K 1 (c_N_hasVersion _ _ _ hu) (cwA K 2 k217 k218 k219 k2 k220 q_N_hasVersion ⟨Nat.le_of_ble_eq_true rfl, Nat.le_of_ble_eq_true rfl⟩) d_D_derive_6 rfl rfl rfl rfl rfl (Nat.le_of_ble_eq_true rfl) ⟨Nat.le_of_ble_eq_true rfl, Nat.le_of_ble_eq_true rfl⟩ ?_
  refine z_ifb_ne (pc := 9) K (tgt := 14) d_D_derive_9 (by decide) (fun c9 => ?_) (fun c9 => ?_)
  · refine z_aload_n (pc := 14) K d_D_derive_14 rfl ?_
    refine z_get (pc := 15) K (ref := "DemandTerms") d_D_derive_15 hi_D 0 rfl rfl 3 (by decide) k113 rfl rfl ?_
    refine z_cVi (pc := 18) K 12 (c_C_size _ ) (cwA K 0 k232 k233 k234 k5 k235 q_C_size ⟨Nat.le_of_ble_eq_true rfl, Nat.le_of_ble_eq_true rfl⟩) d_D_derive_18 rfl rfl rfl rfl rfl (Nat.le_of_ble_eq_true rfl) ⟨Nat.le_of_ble_eq_true rfl, Nat.le_of_ble_eq_true rfl⟩ ?_
    refine z_istore_n (pc := 21) K d_D_derive_21 rfl (by decide) rfl ?_
    refine z_iconst (pc := 22) K (v := 0) d_D_derive_22 (by decide) ?_
    refine z_istore (pc := 23) K d_D_derive_23 (by decide) rfl ?_
    have LP : ∀ (n i : Nat) (cs : CS), i + n = (uR u).1 → uOk (wC u cs) → d_dlp u x v n i cs = d_dlp u x v (uR u).1 0 (uC u) → zW p l e { frames := 4, cells := 0, slots := 0, locals := 94 } s m [.ref (a 0), .int x, .int v].toArray below meth c D vwCl A 5 0 0 Q (CW a cI cJ cC (wC u cs)) 25 [(4, .int (nI i)), (3, .int (nI (uC u).1)), (0, .ref (a 0)), (1, .int x), (2, .int v)] [] := by
      intro n
      induction n with
      | zero =>
        intro i cs hi hc hf
        refine z_iload (pc := 25) K d_D_derive_25 rfl ?_
        refine z_aload_n (pc := 27) K d_D_derive_27 rfl ?_
        refine z_get (pc := 28) K (ref := "DemandTerms") d_D_derive_28 hi_D 0 rfl rfl 2 (by decide) k112 rfl rfl ?_
        refine z_cVi (pc := 31) K 6 (c_R_size _ ) (cwA K 0 k236 k237 k238 k4 k239 q_R_size ⟨Nat.le_of_ble_eq_true rfl, Nat.le_of_ble_eq_true rfl⟩) d_D_derive_31 rfl rfl rfl rfl rfl (Nat.le_of_ble_eq_true rfl) ⟨Nat.le_of_ble_eq_true rfl, Nat.le_of_ble_eq_true rfl⟩ ?_
        refine z_icmp_ge (pc := 34) K (tgt := 85) d_D_derive_34 (by decide) (fun c34 => ?_) (fun c34 => ?_)
        · have hz : d_dlp u x v (uR u).1 0 (uC u) = (true, cs) := by rw [← hf] <;> rfl
          refine z_aload_n (pc := 85) K d_D_derive_85 rfl ?_
          refine z_get (pc := 86) K (ref := "DemandTerms") d_D_derive_86 hi_D 0 rfl rfl 3 (by decide) k113 rfl rfl ?_
          refine z_cVi (pc := 89) K 12 (c_C_size _ ) (cwA K 0 k232 k233 k234 k5 k235 q_C_size ⟨Nat.le_of_ble_eq_true rfl, Nat.le_of_ble_eq_true rfl⟩) d_D_derive_89 rfl rfl rfl rfl rfl (Nat.le_of_ble_eq_true rfl) ⟨Nat.le_of_ble_eq_true rfl, Nat.le_of_ble_eq_true rfl⟩ ?_
          refine z_iload_n (pc := 92) K d_D_derive_92 rfl ?_
          refine z_isub (pc := 93) K d_D_derive_93 ?_
          exact z_reti (pc := 94) ret d_D_derive_94 (by simp [d_deriveC, c9, hz]) (by simp [d_deriveC, c9, hz])
        · exact absurd (nI_le (a := (uR u).1) (b := i) (by omega) (by omega)) c34
      | succ n ih =>
        intro i cs hi hc hf
        refine z_iload (pc := 25) K d_D_derive_25 rfl ?_
        refine z_aload_n (pc := 27) K d_D_derive_27 rfl ?_
        refine z_get (pc := 28) K (ref := "DemandTerms") d_D_derive_28 hi_D 0 rfl rfl 2 (by decide) k112 rfl rfl ?_
        refine z_cVi (pc := 31) K 6 (c_R_size _ ) (cwA K 0 k236 k237 k238 k4 k239 q_R_size ⟨Nat.le_of_ble_eq_true rfl, Nat.le_of_ble_eq_true rfl⟩) d_D_derive_31 rfl rfl rfl rfl rfl (Nat.le_of_ble_eq_true rfl) ⟨Nat.le_of_ble_eq_true rfl, Nat.le_of_ble_eq_true rfl⟩ ?_
        refine z_icmp_ge (pc := 34) K (tgt := 85) d_D_derive_34 (by decide) (fun c34 => ?_) (fun c34 => ?_)
        · exact absurd c34 (nI_ge (a := i) (b := (uR u).1) (by omega) (by omega))
        · refine z_aload_n (pc := 37) K d_D_derive_37 rfl ?_
          refine z_get (pc := 38) K (ref := "DemandTerms") d_D_derive_38 hi_D 0 rfl rfl 2 (by decide) k112 rfl rfl ?_
          refine z_iload (pc := 41) K d_D_derive_41 rfl ?_
          refine z_iload_n (pc := 43) K d_D_derive_43 rfl ?_
          refine z_iload_n (pc := 44) K d_D_derive_44 rfl ?_
          refine z_cVi (pc := 45) K 6 (c_R_isOf (wC u cs) _ _ _ hc) (cwA K 3 k240 k241 k242 k4 k243 q_R_isOf ⟨Nat.le_of_ble_eq_true rfl, Nat.le_of_ble_eq_true rfl⟩) d_D_derive_45 rfl rfl rfl rfl rfl (Nat.le_of_ble_eq_true rfl) ⟨Nat.le_of_ble_eq_true rfl, Nat.le_of_ble_eq_true rfl⟩ ?_
          refine z_ifb_eq (pc := 48) K (tgt := 79) d_D_derive_48 (by decide) (fun c48 => ?_) (fun c48 => ?_)
          · refine z_iinc (pc := 79) K (v := nI (i + 1)) d_D_derive_79 0 rfl (inc1 i) (by decide) rfl ?_
            refine z_goto (pc := 82) K (tgt := 25) d_D_derive_82 (by decide) ?_
            refine z_lv [0, 1, 2, 3, 4] rfl ?_
            exact ih (i + 1) _ (by omega) hc (by rw [← hf]; simp [d_dlp, c48])
          · refine z_aload_n (pc := 51) K d_D_derive_51 rfl ?_
            refine z_iload (pc := 52) K d_D_derive_52 rfl ?_
            refine z_cVi (pc := 54) K 0 (c_D_isDerived (wC u cs) _ hc) (cwA K 1 k248 k250 ks1 k1 k251 q_D_isDerived ⟨Nat.le_of_ble_eq_true rfl, Nat.le_of_ble_eq_true rfl⟩) d_D_derive_54 rfl rfl rfl rfl rfl (Nat.le_of_ble_eq_true rfl) ⟨Nat.le_of_ble_eq_true rfl, Nat.le_of_ble_eq_true rfl⟩ ?_
            refine z_ifb_ne (pc := 57) K (tgt := 79) d_D_derive_57 (by decide) (fun c57 => ?_) (fun c57 => ?_)
            · refine z_iinc (pc := 79) K (v := nI (i + 1)) d_D_derive_79 0 rfl (inc1 i) (by decide) rfl ?_
              refine z_goto (pc := 82) K (tgt := 25) d_D_derive_82 (by decide) ?_
              refine z_lv [0, 1, 2, 3, 4] rfl ?_
              exact ih (i + 1) _ (by omega) hc (by rw [← hf]; simp [d_dlp, c48, c57])
            · refine z_aload_n (pc := 60) K d_D_derive_60 rfl ?_
              refine z_iload (pc := 61) K d_D_derive_61 rfl ?_
              refine z_cVi (pc := 63) K 0 (c_D_deriveFrom (wC u cs) _ hc (r_vrE (r := uR u) (i := i) hb hrv (by omega))) (cwA K 1 k273 k275 ks2 k1 k276 q_D_deriveFrom ⟨Nat.le_of_ble_eq_true rfl, Nat.le_of_ble_eq_true rfl⟩) d_D_derive_63 rfl rfl rfl rfl rfl (Nat.le_of_ble_eq_true rfl) ⟨Nat.le_of_ble_eq_true rfl, Nat.le_of_ble_eq_true rfl⟩ ?_
              refine z_ifb_ne (pc := 66) K (tgt := 79) d_D_derive_66 (by decide) (fun c66 => ?_) (fun c66 => ?_)
              · refine z_iinc (pc := 79) K (v := nI (i + 1)) d_D_derive_79 0 rfl (inc1 i) (by decide) rfl ?_
                refine z_goto (pc := 82) K (tgt := 25) d_D_derive_82 (by decide) ?_
                refine z_lv [0, 1, 2, 3, 4] rfl ?_
                exact ih (i + 1) _ (by omega) (ok_df _ hc) (by rw [← hf]; simp [d_dlp, c48, c57, c66])
              · have hfl : d_dlp u x v (uR u).1 0 (uC u) = (false, (d_df (wC u cs) (nI i)).2) := by rw [← hf]; simp [d_dlp, c48, c57, c66]
                refine z_aload_n (pc := 69) K d_D_derive_69 rfl ?_
                refine z_get (pc := 70) K (ref := "DemandTerms") d_D_derive_70 hi_D 0 rfl rfl 3 (by decide) k113 rfl rfl ?_
                refine z_iload_n (pc := 73) K d_D_derive_73 rfl ?_
                refine z_cVv (pc := 74) K 12 (c_C_cutTo _ _ (ok_df _ hc) hb2) (cwA K 1 k309 k310 k311 k5 k312 q_C_cutTo ⟨Nat.le_of_ble_eq_true rfl, Nat.le_of_ble_eq_true rfl⟩) d_D_derive_74 rfl rfl rfl rfl rfl (Nat.le_of_ble_eq_true rfl) ⟨Nat.le_of_ble_eq_true rfl, Nat.le_of_ble_eq_true rfl⟩ ?_
                refine z_iconst (pc := 77) K (v := (-1)) d_D_derive_77 (by decide) ?_
                exact z_reti (pc := 78) ret d_D_derive_78 (by simp [d_deriveC, c9, hfl]) (by simp [d_deriveC, c9, hfl])
    refine z_lv [0, 1, 2, 3, 4] rfl ?_
    exact LP (uR u).1 0 (uC u) (by omega) hu rfl
  · refine z_iconst (pc := 12) K (v := (-1)) d_D_derive_12 (by decide) ?_
    exact z_reti (pc := 13) ret d_D_derive_13 (by rw [d_deriveC, if_neg (by rw [c9]; decide)] <;> rfl) (by rw [d_deriveC, if_neg (by rw [c9]; decide)] <;> rfl)
set_option maxRecDepth 100000 in
set_option maxHeartbeats 4000000 in
theorem c_D_bar (u : US) (x : Int32) (set : Int64) (dm : Int32) (hu : uOk u) : MI l D vwCl (CT cI cJ cC cZ) (CW a cI cJ cC) y_D_bar (wA y_D_bar prog_1_method_10_code 6 (some .int)) { frames := 3, cells := 0, slots := 0, locals := 69 } [.ref (a 0), .int x, .long set, .int dm] u ((d_barC u x set dm).1) (wC u (d_barC u x set dm).2) := by
  refine MI.of (cc := prog_1_method_10_code) (nL := 6) (by decide) rfl (Nat.le_of_ble_eq_true rfl) ?_
  intro p e s m below meth c A Q K ret
  refine z_lvE (lv' := [(0, .ref (a 0)), (1, .int x), (2, .long set), (4, .int dm)]) rfl ?_
  have hb := hu.2.2.2.1
  refine z_aload_n (pc := 0) K d_D_bar_0 rfl ?_
  refine z_get (pc := 1) K (ref := "DemandTerms") d_D_bar_1 hi_D 0 rfl rfl 0 (by decide) k110 rfl rfl ?_
  refine z_iload_n (pc := 4) K d_D_bar_4 rfl ?_
  refine z_cVi (pc := 5) K 1 (c_N_has _ _ ) (cwA K 1 k150 k143 k144 k2 k145 q_N_has ⟨Nat.le_of_ble_eq_true rfl, Nat.le_of_ble_eq_true rfl⟩) d_D_bar_5 rfl rfl rfl rfl rfl (Nat.le_of_ble_eq_true rfl) ⟨Nat.le_of_ble_eq_true rfl, Nat.le_of_ble_eq_true rfl⟩ ?_
  refine z_ifb_ne (pc := 8) K (tgt := 13) d_D_bar_8 (by decide) (fun c8 => ?_) (fun c8 => ?_)
  · refine z_aload_n (pc := 13) K d_D_bar_13 rfl ?_
    refine z_get (pc := 14) K (ref := "DemandTerms") d_D_bar_14 hi_D 0 rfl rfl 3 (by decide) k113 rfl rfl ?_
    refine z_iconst (pc := 17) K (v := (-1)) d_D_bar_17 (by decide) ?_
    refine z_lconst (pc := 18) K (v := 0) d_D_bar_18 (by decide) ?_
    refine z_cVi (pc := 19) K 12 (c_C_add _ _ _ hu) (cwA K 2 k285 k286 k287 k5 k288 q_C_add ⟨Nat.le_of_ble_eq_true rfl, Nat.le_of_ble_eq_true rfl⟩) d_D_bar_19 rfl rfl rfl rfl rfl (Nat.le_of_ble_eq_true rfl) ⟨Nat.le_of_ble_eq_true rfl, Nat.le_of_ble_eq_true rfl⟩ ?_
    by_cases h3 : (300 : Int32) ≤ nI (uC u).1
    · refine z_ws (ws' := CW a cI cJ cC u) (by rw [c_add, if_pos h3] <;> rfl) ?_
      refine z_eqi (y := -1) (by rw [c_add, if_pos h3] <;> rfl) ?_
      refine z_istore (pc := 22) K d_D_bar_22 (by decide) rfl ?_
      refine z_iload (pc := 24) K d_D_bar_24 rfl ?_
      refine z_iconst (pc := 26) K (v := (-1)) d_D_bar_26 (by decide) ?_
      refine z_icmp_eq (pc := 27) K (tgt := 56) d_D_bar_27 (by decide) (fun c27 => ?_) (fun c27 => ?_)
      · refine z_iload (pc := 56) K d_D_bar_56 rfl ?_
        exact z_reti (pc := 58) ret d_D_bar_58 (by rw [d_barC, if_pos c8, if_pos h3] <;> rfl) (by rw [d_barC, if_pos c8, if_pos h3] <;> rfl)
      · exact absurd rfl c27
    · refine z_eqi (y := nI (uC u).1) (by rw [c_add, if_neg h3] <;> rfl) ?_
      refine z_istore (pc := 22) K d_D_bar_22 (by decide) rfl ?_
      refine z_iload (pc := 24) K d_D_bar_24 rfl ?_
      refine z_iconst (pc := 26) K (v := (-1)) d_D_bar_26 (by decide) ?_
      refine z_icmp_eq (pc := 27) K (tgt := 56) d_D_bar_27 (by decide) (fun c27 => ?_) (fun c27 => ?_)
      · exact absurd c27 (nI_ne_m1 (by omega))
      · refine z_aload_n (pc := 30) K d_D_bar_30 rfl ?_
        refine z_iload (pc := 31) K d_D_bar_31 rfl ?_
        refine z_iload_n (pc := 33) K d_D_bar_33 rfl ?_
        refine z_aload_n (pc := 34) K d_D_bar_34 rfl ?_
        refine z_get (pc := 35) K (ref := "DemandTerms") d_D_bar_35 hi_D 0 rfl rfl 0 (by decide) k110 rfl rfl ?_
        refine z_iload_n (pc := 38) K d_D_bar_38 rfl ?_
        refine z_lload_n (pc := 39) K d_D_bar_39 rfl ?_
        refine z_iload (pc := 40) K d_D_bar_40 rfl ?_
        refine z_if_ne (pc := 42) K (tgt := 49) d_D_bar_42 (by decide) (fun c42 => ?_) (fun c42 => ?_)
        · refine z_iconst (pc := 49) K (v := 0) d_D_bar_49 (by decide) ?_
          refine z_cVl (pc := 50) K 1 (c_N_placesOf (wC u (c_add (uC u) (-1) 0).2) _ _ _ (ok_cadd _ _ hu)) (cwA K 3 k151 k152 k153 k2 k154 q_N_placesOf ⟨Nat.le_of_ble_eq_true rfl, Nat.le_of_ble_eq_true rfl⟩) d_D_bar_50 rfl rfl rfl rfl rfl (Nat.le_of_ble_eq_true rfl) ⟨Nat.le_of_ble_eq_true rfl, Nat.le_of_ble_eq_true rfl⟩ ?_
          refine z_cVv (pc := 53) K 0 (c_D_putPart (wC u (c_add (uC u) (-1) 0).2) _ _ _ (ok_cadd _ _ hu)) (cwA K 3 k293 k295 ks3 k1 k296 q_D_putPart ⟨Nat.le_of_ble_eq_true rfl, Nat.le_of_ble_eq_true rfl⟩) d_D_bar_53 rfl rfl rfl rfl rfl (Nat.le_of_ble_eq_true rfl) ⟨Nat.le_of_ble_eq_true rfl, Nat.le_of_ble_eq_true rfl⟩ ?_
          refine z_iload (pc := 56) K d_D_bar_56 rfl ?_
          exact z_reti (pc := 58) ret d_D_bar_58 (by rw [d_barC, if_pos c8, if_neg h3] <;> rfl) (by rw [d_barC, if_pos c8, if_neg h3, if_neg c42] <;> rfl)
        · refine z_iconst (pc := 45) K (v := 1) d_D_bar_45 (by decide) ?_
          refine z_goto (pc := 46) K (tgt := 50) d_D_bar_46 (by decide) ?_
          refine z_cVl (pc := 50) K 1 (c_N_placesOf (wC u (c_add (uC u) (-1) 0).2) _ _ _ (ok_cadd _ _ hu)) (cwA K 3 k151 k152 k153 k2 k154 q_N_placesOf ⟨Nat.le_of_ble_eq_true rfl, Nat.le_of_ble_eq_true rfl⟩) d_D_bar_50 rfl rfl rfl rfl rfl (Nat.le_of_ble_eq_true rfl) ⟨Nat.le_of_ble_eq_true rfl, Nat.le_of_ble_eq_true rfl⟩ ?_
          refine z_cVv (pc := 53) K 0 (c_D_putPart (wC u (c_add (uC u) (-1) 0).2) _ _ _ (ok_cadd _ _ hu)) (cwA K 3 k293 k295 ks3 k1 k296 q_D_putPart ⟨Nat.le_of_ble_eq_true rfl, Nat.le_of_ble_eq_true rfl⟩) d_D_bar_53 rfl rfl rfl rfl rfl (Nat.le_of_ble_eq_true rfl) ⟨Nat.le_of_ble_eq_true rfl, Nat.le_of_ble_eq_true rfl⟩ ?_
          refine z_iload (pc := 56) K d_D_bar_56 rfl ?_
          exact z_reti (pc := 58) ret d_D_bar_58 (by rw [d_barC, if_pos c8, if_neg h3] <;> rfl) (by rw [d_barC, if_pos c8, if_neg h3, if_pos c42] <;> rfl)
  · refine z_iconst (pc := 11) K (v := (-1)) d_D_bar_11 (by decide) ?_
    exact z_reti (pc := 12) ret d_D_bar_12 (by rw [d_barC, if_neg (by rw [c8]; decide)] <;> rfl) (by rw [d_barC, if_neg (by rw [c8]; decide)] <;> rfl)
set_option maxRecDepth 100000 in
set_option maxHeartbeats 4000000 in
theorem c_D_learn (u : US) (x : Int32) (y : Int32) (z : Int32) (hu : uOk u) : MI l D vwCl (CT cI cJ cC cZ) (CW a cI cJ cC) y_D_learn (wA y_D_learn prog_1_method_11_code 10 (some .int)) { frames := 4, cells := 0, slots := 0, locals := 87 } [.ref (a 0), .int x, .int y, .int z] u ((d_learnC u x y z).1) (wC u (d_learnC u x y z).2) := by
  refine MI.of (cc := prog_1_method_11_code) (nL := 10) (by decide) rfl (Nat.le_of_ble_eq_true rfl) ?_
  intro p e s m below meth c A Q K ret
  refine z_lvE (lv' := [(0, .ref (a 0)), (1, .int x), (2, .int y), (3, .int z)]) rfl ?_
  have hb := hu.2.2.2.1
  have hb1 := hu.1
  refine z_aload_n (pc := 0) K d_D_learn_0 rfl ?_
  refine z_get (pc := 1) K (ref := "DemandTerms") d_D_learn_1 hi_D 0 rfl rfl 3 (by decide) k113 rfl rfl ?_
  refine z_iload_n (pc := 4) K d_D_learn_4 rfl ?_
  refine z_iload_n (pc := 5) K d_D_learn_5 rfl ?_
  refine z_cVi (pc := 6) K 12 (c_C_holds _ _ _ hu) (cwA K 2 k321 k322 k323 k5 k324 q_C_holds ⟨Nat.le_of_ble_eq_true rfl, Nat.le_of_ble_eq_true rfl⟩) d_D_learn_6 rfl rfl rfl rfl rfl (Nat.le_of_ble_eq_true rfl) ⟨Nat.le_of_ble_eq_true rfl, Nat.le_of_ble_eq_true rfl⟩ ?_
  refine z_ifb_eq (pc := 9) K (tgt := 24) d_D_learn_9 (by decide) (fun c9 => ?_) (fun c9 => ?_)
  · refine z_iconst (pc := 24) K (v := (-1)) d_D_learn_24 (by decide) ?_
    exact z_reti (pc := 25) ret d_D_learn_25 (by simp [d_learnC, c9]) (by simp [d_learnC, c9])
  · refine z_aload_n (pc := 12) K d_D_learn_12 rfl ?_
    refine z_get (pc := 13) K (ref := "DemandTerms") d_D_learn_13 hi_D 0 rfl rfl 3 (by decide) k113 rfl rfl ?_
    refine z_iload_n (pc := 16) K d_D_learn_16 rfl ?_
    refine z_iload_n (pc := 17) K d_D_learn_17 rfl ?_
    refine z_cVi (pc := 18) K 12 (c_C_holds _ _ _ hu) (cwA K 2 k321 k322 k323 k5 k324 q_C_holds ⟨Nat.le_of_ble_eq_true rfl, Nat.le_of_ble_eq_true rfl⟩) d_D_learn_18 rfl rfl rfl rfl rfl (Nat.le_of_ble_eq_true rfl) ⟨Nat.le_of_ble_eq_true rfl, Nat.le_of_ble_eq_true rfl⟩ ?_
    refine z_ifb_ne (pc := 21) K (tgt := 26) d_D_learn_21 (by decide) (fun c21 => ?_) (fun c21 => ?_)
    · refine z_aload_n (pc := 26) K d_D_learn_26 rfl ?_
      refine z_get (pc := 27) K (ref := "DemandTerms") d_D_learn_27 hi_D 0 rfl rfl 3 (by decide) k113 rfl rfl ?_
      refine z_iconst (pc := 30) K (v := (-1)) d_D_learn_30 (by decide) ?_
      refine z_lconst (pc := 31) K (v := 0) d_D_learn_31 (by decide) ?_
      refine z_cVi (pc := 32) K 12 (c_C_add _ _ _ hu) (cwA K 2 k285 k286 k287 k5 k288 q_C_add ⟨Nat.le_of_ble_eq_true rfl, Nat.le_of_ble_eq_true rfl⟩) d_D_learn_32 rfl rfl rfl rfl rfl (Nat.le_of_ble_eq_true rfl) ⟨Nat.le_of_ble_eq_true rfl, Nat.le_of_ble_eq_true rfl⟩ ?_
      by_cases h3 : (300 : Int32) ≤ nI (uC u).1
      · refine z_ws (ws' := CW a cI cJ cC u) (by rw [c_add, if_pos h3] <;> rfl) ?_
        refine z_eqi (y := -1) (by rw [c_add, if_pos h3] <;> rfl) ?_
        refine z_istore (pc := 35) K d_D_learn_35 (by decide) rfl ?_
        refine z_iload (pc := 37) K d_D_learn_37 rfl ?_
        refine z_iconst (pc := 39) K (v := (-1)) d_D_learn_39 (by decide) ?_
        refine z_icmp_ne (pc := 40) K (tgt := 45) d_D_learn_40 (by decide) (fun c40 => ?_) (fun c40 => ?_)
        · exact absurd rfl c40
        · refine z_iconst (pc := 43) K (v := (-1)) d_D_learn_43 (by decide) ?_
          exact z_reti (pc := 44) ret d_D_learn_44 (by rw [d_learnC, if_pos c9, if_pos c21, if_pos h3] <;> rfl) (by rw [d_learnC, if_pos c9, if_pos c21, if_pos h3] <;> rfl)
      · refine z_eqi (y := nI (uC u).1) (by rw [c_add, if_neg h3] <;> rfl) ?_
        refine z_istore (pc := 35) K d_D_learn_35 (by decide) rfl ?_
        refine z_iload (pc := 37) K d_D_learn_37 rfl ?_
        refine z_iconst (pc := 39) K (v := (-1)) d_D_learn_39 (by decide) ?_
        refine z_icmp_ne (pc := 40) K (tgt := 45) d_D_learn_40 (by decide) (fun c40 => ?_) (fun c40 => ?_)
        · refine z_iconst (pc := 45) K (v := 0) d_D_learn_45 (by decide) ?_
          refine z_istore (pc := 46) K d_D_learn_46 (by decide) rfl ?_
          have LP : ∀ (n i : Nat) (cs : CS), i + n = (uN u).1 → uOk (wC u cs) → d_ll u x y z (nI (uC u).1) n i cs = d_ll u x y z (nI (uC u).1) (uN u).1 0 (c_add (uC u) (-1) 0).2 → zW p l e { frames := 4, cells := 0, slots := 0, locals := 87 } s m [.ref (a 0), .int x, .int y, .int z].toArray below meth c D vwCl A 10 0 0 Q (CW a cI cJ cC (wC u cs)) 48 [(5, .int (nI i)), (4, .int (nI (uC u).1)), (0, .ref (a 0)), (1, .int x), (2, .int y), (3, .int z)] [] := by
            intro n
            induction n with
            | zero =>
              intro i cs hi hc hf
              refine z_iload (pc := 48) K d_D_learn_48 rfl ?_
              refine z_aload_n (pc := 50) K d_D_learn_50 rfl ?_
              refine z_get (pc := 51) K (ref := "DemandTerms") d_D_learn_51 hi_D 0 rfl rfl 0 (by decide) k110 rfl rfl ?_
              refine z_cVi (pc := 54) K 1 (c_N_size _ ) (cwA K 0 k325 k326 k327 k2 k328 q_N_size ⟨Nat.le_of_ble_eq_true rfl, Nat.le_of_ble_eq_true rfl⟩) d_D_learn_54 rfl rfl rfl rfl rfl (Nat.le_of_ble_eq_true rfl) ⟨Nat.le_of_ble_eq_true rfl, Nat.le_of_ble_eq_true rfl⟩ ?_
              refine z_icmp_ge (pc := 57) K (tgt := 111) d_D_learn_57 (by decide) (fun c57 => ?_) (fun c57 => ?_)
              · refine z_iload (pc := 111) K d_D_learn_111 rfl ?_
                exact z_reti (pc := 113) ret d_D_learn_113 (by rw [d_learnC, if_pos c9, if_pos c21, if_neg h3] <;> rfl) (by rw [d_learnC, if_pos c9, if_pos c21, if_neg h3, ← hf] <;> rfl)
              · exact absurd (nI_le (a := (uN u).1) (b := i) (by omega) (by omega)) c57
            | succ n ih =>
              intro i cs hi hc hf
              refine z_iload (pc := 48) K d_D_learn_48 rfl ?_
              refine z_aload_n (pc := 50) K d_D_learn_50 rfl ?_
              refine z_get (pc := 51) K (ref := "DemandTerms") d_D_learn_51 hi_D 0 rfl rfl 0 (by decide) k110 rfl rfl ?_
              refine z_cVi (pc := 54) K 1 (c_N_size _ ) (cwA K 0 k325 k326 k327 k2 k328 q_N_size ⟨Nat.le_of_ble_eq_true rfl, Nat.le_of_ble_eq_true rfl⟩) d_D_learn_54 rfl rfl rfl rfl rfl (Nat.le_of_ble_eq_true rfl) ⟨Nat.le_of_ble_eq_true rfl, Nat.le_of_ble_eq_true rfl⟩ ?_
              refine z_icmp_ge (pc := 57) K (tgt := 111) d_D_learn_57 (by decide) (fun c57 => ?_) (fun c57 => ?_)
              · exact absurd c57 (nI_ge (a := i) (b := (uN u).1) (by omega) (by omega))
              · refine z_aload_n (pc := 60) K d_D_learn_60 rfl ?_
                refine z_iload_n (pc := 61) K d_D_learn_61 rfl ?_
                refine z_iload (pc := 62) K d_D_learn_62 rfl ?_
                refine z_cVl (pc := 64) K 0 (c_D_placesIn (wC u cs) _ _ hc) (cwA K 2 k329 k331 ks4 k1 k332 q_D_placesIn ⟨Nat.le_of_ble_eq_true rfl, Nat.le_of_ble_eq_true rfl⟩) d_D_learn_64 rfl rfl rfl rfl rfl (Nat.le_of_ble_eq_true rfl) ⟨Nat.le_of_ble_eq_true rfl, Nat.le_of_ble_eq_true rfl⟩ ?_
                refine z_lstore (pc := 67) K d_D_learn_67 (by decide) rfl ?_
                refine z_aload_n (pc := 69) K d_D_learn_69 rfl ?_
                refine z_iload_n (pc := 70) K d_D_learn_70 rfl ?_
                refine z_iload (pc := 71) K d_D_learn_71 rfl ?_
                refine z_cVl (pc := 73) K 0 (c_D_placesIn (wC u cs) _ _ hc) (cwA K 2 k329 k331 ks4 k1 k332 q_D_placesIn ⟨Nat.le_of_ble_eq_true rfl, Nat.le_of_ble_eq_true rfl⟩) d_D_learn_73 rfl rfl rfl rfl rfl (Nat.le_of_ble_eq_true rfl) ⟨Nat.le_of_ble_eq_true rfl, Nat.le_of_ble_eq_true rfl⟩ ?_
                refine z_lstore (pc := 76) K d_D_learn_76 (by decide) rfl ?_
                refine z_aload_n (pc := 78) K d_D_learn_78 rfl ?_
                refine z_iload (pc := 79) K d_D_learn_79 rfl ?_
                refine z_iload (pc := 81) K d_D_learn_81 rfl ?_
                refine z_iload (pc := 83) K d_D_learn_83 rfl ?_
                refine z_iload_n (pc := 85) K d_D_learn_85 rfl ?_
                refine z_icmp_ne (pc := 86) K (tgt := 97) d_D_learn_86 (by decide) (fun c86 => ?_) (fun c86 => ?_)
                · refine z_lload (pc := 97) K d_D_learn_97 rfl ?_
                  refine z_lload (pc := 99) K d_D_learn_99 rfl ?_
                  refine z_land (pc := 101) K d_D_learn_101 ?_
                  refine z_cVv (pc := 102) K 0 (c_D_putPart (wC u cs) _ _ _ hc) (cwA K 3 k293 k295 ks3 k1 k296 q_D_putPart ⟨Nat.le_of_ble_eq_true rfl, Nat.le_of_ble_eq_true rfl⟩) d_D_learn_102 rfl rfl rfl rfl rfl (Nat.le_of_ble_eq_true rfl) ⟨Nat.le_of_ble_eq_true rfl, Nat.le_of_ble_eq_true rfl⟩ ?_
                  refine z_iinc (pc := 105) K (v := nI (i + 1)) d_D_learn_105 2 rfl (inc1 i) (by decide) rfl ?_
                  refine z_goto (pc := 108) K (tgt := 48) d_D_learn_108 (by decide) ?_
                  refine z_lv [0, 3, 4, 5, 6, 7] rfl ?_
                  exact ih (i + 1) _ (by omega) (ok_pp _ _ _ hc) (by rw [← hf]; simp [d_ll, d_lp, c86])
                · refine z_lload (pc := 89) K d_D_learn_89 rfl ?_
                  refine z_lload (pc := 91) K d_D_learn_91 rfl ?_
                  refine z_lor (pc := 93) K d_D_learn_93 ?_
                  refine z_goto (pc := 94) K (tgt := 102) d_D_learn_94 (by decide) ?_
                  refine z_cVv (pc := 102) K 0 (c_D_putPart (wC u cs) _ _ _ hc) (cwA K 3 k293 k295 ks3 k1 k296 q_D_putPart ⟨Nat.le_of_ble_eq_true rfl, Nat.le_of_ble_eq_true rfl⟩) d_D_learn_102 rfl rfl rfl rfl rfl (Nat.le_of_ble_eq_true rfl) ⟨Nat.le_of_ble_eq_true rfl, Nat.le_of_ble_eq_true rfl⟩ ?_
                  refine z_iinc (pc := 105) K (v := nI (i + 1)) d_D_learn_105 2 rfl (inc1 i) (by decide) rfl ?_
                  refine z_goto (pc := 108) K (tgt := 48) d_D_learn_108 (by decide) ?_
                  refine z_lv [0, 3, 4, 5, 6, 7] rfl ?_
                  exact ih (i + 1) _ (by omega) (ok_pp _ _ _ hc) (by rw [← hf]; simp [d_ll, d_lp, c86])
          refine z_lv [0, 1, 2, 3, 4, 5] rfl ?_
          exact LP (uN u).1 0 _ (by omega) (ok_cadd _ _ hu) rfl
        · exact absurd c40 (nI_ne_m1 (by omega))
    · refine z_iconst (pc := 24) K (v := (-1)) d_D_learn_24 (by decide) ?_
      exact z_reti (pc := 25) ret d_D_learn_25 (by simp [d_learnC, c9, c21]) (by simp [d_learnC, c9, c21])
set_option maxRecDepth 100000 in
set_option maxHeartbeats 4000000 in
theorem c_D_count (u : US)   : MI l D vwCl (CT cI cJ cC cZ) (CW a cI cJ cC) y_D_count (wA y_D_count prog_1_method_12_code 1 (some .int)) { frames := 1, cells := 0, slots := 0, locals := 20 } [.ref (a 0)] u (nI (uC u).1) (u) := by
  refine MI.of (cc := prog_1_method_12_code) (nL := 1) (by decide) rfl (Nat.le_of_ble_eq_true rfl) ?_
  intro p e s m below meth c A Q K ret
  refine z_lvE (lv' := [(0, .ref (a 0))]) rfl ?_
  refine z_aload_n (pc := 0) K d_D_count_0 rfl ?_
  refine z_get (pc := 1) K (ref := "DemandTerms") d_D_count_1 hi_D 0 rfl rfl 3 (by decide) k113 rfl rfl ?_
  refine z_cVi (pc := 4) K 12 (c_C_size _ ) (cwA K 0 k232 k233 k234 k5 k235 q_C_size ⟨Nat.le_of_ble_eq_true rfl, Nat.le_of_ble_eq_true rfl⟩) d_D_count_4 rfl rfl rfl rfl rfl (Nat.le_of_ble_eq_true rfl) ⟨Nat.le_of_ble_eq_true rfl, Nat.le_of_ble_eq_true rfl⟩ ?_
  exact z_reti (pc := 7) ret d_D_count_7 rfl rfl
set_option maxRecDepth 100000 in
set_option maxHeartbeats 4000000 in
theorem c_D_terms (u : US) (k : Int32) (hu : uOk u) : MI l D vwCl (CT cI cJ cC cZ) (CW a cI cJ cC) y_D_terms (wA y_D_terms prog_1_method_13_code 2 (some .int)) { frames := 2, cells := 0, slots := 0, locals := 42 } [.ref (a 0), .int k] u (d_terms u k) (u) := by
  refine MI.of (cc := prog_1_method_13_code) (nL := 2) (by decide) rfl (Nat.le_of_ble_eq_true rfl) ?_
  intro p e s m below meth c A Q K ret
  refine z_lvE (lv' := [(0, .ref (a 0)), (1, .int k)]) rfl ?_
  refine z_aload_n (pc := 0) K d_D_terms_0 rfl ?_
  refine z_get (pc := 1) K (ref := "DemandTerms") d_D_terms_1 hi_D 0 rfl rfl 3 (by decide) k113 rfl rfl ?_
  refine z_iload_n (pc := 4) K d_D_terms_4 rfl ?_
  refine z_cVi (pc := 5) K 12 (c_C_has _ _ ) (cwA K 1 k346 k261 k262 k5 k263 q_C_has ⟨Nat.le_of_ble_eq_true rfl, Nat.le_of_ble_eq_true rfl⟩) d_D_terms_5 rfl rfl rfl rfl rfl (Nat.le_of_ble_eq_true rfl) ⟨Nat.le_of_ble_eq_true rfl, Nat.le_of_ble_eq_true rfl⟩ ?_
  refine z_ifb_eq (pc := 8) K (tgt := 22) d_D_terms_8 (by decide) (fun c8 => ?_) (fun c8 => ?_)
  · refine z_iconst (pc := 22) K (v := (-1)) d_D_terms_22 (by decide) ?_
    exact z_reti (pc := 23) ret d_D_terms_23 (by simp [d_terms, c8]) rfl
  · refine z_aload_n (pc := 11) K d_D_terms_11 rfl ?_
    refine z_get (pc := 12) K (ref := "DemandTerms") d_D_terms_12 hi_D 0 rfl rfl 3 (by decide) k113 rfl rfl ?_
    refine z_iload_n (pc := 15) K d_D_terms_15 rfl ?_
    refine z_cVi (pc := 16) K 12 (c_C_partsOf _ _ hu) (cwA K 1 k347 k348 k349 k5 k350 q_C_partsOf ⟨Nat.le_of_ble_eq_true rfl, Nat.le_of_ble_eq_true rfl⟩) d_D_terms_16 rfl rfl rfl rfl rfl (Nat.le_of_ble_eq_true rfl) ⟨Nat.le_of_ble_eq_true rfl, Nat.le_of_ble_eq_true rfl⟩ ?_
    refine z_goto (pc := 19) K (tgt := 23) d_D_terms_19 (by decide) ?_
    exact z_reti (pc := 23) ret d_D_terms_23 (by simp [d_terms, c8]) rfl
set_option maxRecDepth 100000 in
set_option maxHeartbeats 4000000 in
theorem c_D_part (u : US) (k : Int32) (i : Int32) (w : Int32) (hu : uOk u) : MI l D vwCl (CT cI cJ cC cZ) (CW a cI cJ cC) y_D_part (wA y_D_part prog_1_method_14_code 5 (some .int)) { frames := 4, cells := 0, slots := 0, locals := 89 } [.ref (a 0), .int k, .int i, .int w] u (d_part u k i w) (u) := by
  refine MI.of (cc := prog_1_method_14_code) (nL := 5) (by decide) rfl (Nat.le_of_ble_eq_true rfl) ?_
  intro p e s m below meth c A Q K ret
  refine z_lvE (lv' := [(0, .ref (a 0)), (1, .int k), (2, .int i), (3, .int w)]) rfl ?_
  refine z_aload_n (pc := 0) K d_D_part_0 rfl ?_
  refine z_get (pc := 1) K (ref := "DemandTerms") d_D_part_1 hi_D 0 rfl rfl 3 (by decide) k113 rfl rfl ?_
  refine z_iload_n (pc := 4) K d_D_part_4 rfl ?_
  refine z_iload_n (pc := 5) K d_D_part_5 rfl ?_
  refine z_cVi (pc := 6) K 12 (c_C_nameAt _ _ _ hu) (cwA K 2 k361 k362 k363 k5 k364 q_C_nameAt ⟨Nat.le_of_ble_eq_true rfl, Nat.le_of_ble_eq_true rfl⟩) d_D_part_6 rfl rfl rfl rfl rfl (Nat.le_of_ble_eq_true rfl) ⟨Nat.le_of_ble_eq_true rfl, Nat.le_of_ble_eq_true rfl⟩ ?_
  refine z_istore (pc := 9) K d_D_part_9 (by decide) rfl ?_
  refine z_iload (pc := 11) K d_D_part_11 rfl ?_
  refine z_iconst (pc := 13) K (v := (-1)) d_D_part_13 (by decide) ?_
  refine z_icmp_ne (pc := 14) K (tgt := 19) d_D_part_14 (by decide) (fun c14 => ?_) (fun c14 => ?_)
  · refine z_aload_n (pc := 19) K d_D_part_19 rfl ?_
    refine z_iload (pc := 20) K d_D_part_20 rfl ?_
    refine z_aload_n (pc := 22) K d_D_part_22 rfl ?_
    refine z_get (pc := 23) K (ref := "DemandTerms") d_D_part_23 hi_D 0 rfl rfl 3 (by decide) k113 rfl rfl ?_
    refine z_iload_n (pc := 26) K d_D_part_26 rfl ?_
    refine z_iload (pc := 27) K d_D_part_27 rfl ?_
    refine z_cVl (pc := 29) K 12 (c_C_placesOf _ _ _ hu) (cwA K 2 k333 k334 k335 k5 k336 q_C_placesOf ⟨Nat.le_of_ble_eq_true rfl, Nat.le_of_ble_eq_true rfl⟩) d_D_part_29 rfl rfl rfl rfl rfl (Nat.le_of_ble_eq_true rfl) ⟨Nat.le_of_ble_eq_true rfl, Nat.le_of_ble_eq_true rfl⟩ ?_
    refine z_iload_n (pc := 32) K d_D_part_32 rfl ?_
    refine z_cVi (pc := 33) K 0 (c_D_describe _ _ _ _ hu) (cwA K 3 k190 k192 ks0 k1 k193 q_D_describe ⟨Nat.le_of_ble_eq_true rfl, Nat.le_of_ble_eq_true rfl⟩) d_D_part_33 rfl rfl rfl rfl rfl (Nat.le_of_ble_eq_true rfl) ⟨Nat.le_of_ble_eq_true rfl, Nat.le_of_ble_eq_true rfl⟩ ?_
    exact z_reti (pc := 36) ret d_D_part_36 (by simp [d_part, c14]) rfl
  · refine z_iconst (pc := 17) K (v := (-1)) d_D_part_17 (by decide) ?_
    exact z_reti (pc := 18) ret d_D_part_18 (by simp [d_part, c14]) rfl
set_option maxRecDepth 100000 in
set_option maxHeartbeats 4000000 in
theorem c_D_partSet (u : US) (k : Int32) (i : Int32) (hu : uOk u) : ML l D vwCl (CT cI cJ cC cZ) (CW a cI cJ cC) y_D_partSet (wA y_D_partSet prog_1_method_15_code 4 (some .long)) { frames := 4, cells := 0, slots := 0, locals := 88 } [.ref (a 0), .int k, .int i] u (d_partSet u k i) (u) := by
  refine ML.of (cc := prog_1_method_15_code) (nL := 4) (by decide) rfl (Nat.le_of_ble_eq_true rfl) ?_
  intro p e s m below meth c A Q K ret
  refine z_lvE (lv' := [(0, .ref (a 0)), (1, .int k), (2, .int i)]) rfl ?_
  refine z_aload_n (pc := 0) K d_D_partSet_0 rfl ?_
  refine z_get (pc := 1) K (ref := "DemandTerms") d_D_partSet_1 hi_D 0 rfl rfl 3 (by decide) k113 rfl rfl ?_
  refine z_iload_n (pc := 4) K d_D_partSet_4 rfl ?_
  refine z_iload_n (pc := 5) K d_D_partSet_5 rfl ?_
  refine z_cVi (pc := 6) K 12 (c_C_nameAt _ _ _ hu) (cwA K 2 k361 k362 k363 k5 k364 q_C_nameAt ⟨Nat.le_of_ble_eq_true rfl, Nat.le_of_ble_eq_true rfl⟩) d_D_partSet_6 rfl rfl rfl rfl rfl (Nat.le_of_ble_eq_true rfl) ⟨Nat.le_of_ble_eq_true rfl, Nat.le_of_ble_eq_true rfl⟩ ?_
  refine z_istore_n (pc := 9) K d_D_partSet_9 rfl (by decide) rfl ?_
  refine z_iload_n (pc := 10) K d_D_partSet_10 rfl ?_
  refine z_iconst (pc := 11) K (v := (-1)) d_D_partSet_11 (by decide) ?_
  refine z_icmp_ne (pc := 12) K (tgt := 17) d_D_partSet_12 (by decide) (fun c12 => ?_) (fun c12 => ?_)
  · refine z_aload_n (pc := 17) K d_D_partSet_17 rfl ?_
    refine z_get (pc := 18) K (ref := "DemandTerms") d_D_partSet_18 hi_D 0 rfl rfl 0 (by decide) k110 rfl rfl ?_
    refine z_iload_n (pc := 21) K d_D_partSet_21 rfl ?_
    refine z_aload_n (pc := 22) K d_D_partSet_22 rfl ?_
    refine z_get (pc := 23) K (ref := "DemandTerms") d_D_partSet_23 hi_D 0 rfl rfl 3 (by decide) k113 rfl rfl ?_
    refine z_iload_n (pc := 26) K d_D_partSet_26 rfl ?_
    refine z_iload_n (pc := 27) K d_D_partSet_27 rfl ?_
    refine z_cVl (pc := 28) K 12 (c_C_placesOf _ _ _ hu) (cwA K 2 k333 k334 k335 k5 k336 q_C_placesOf ⟨Nat.le_of_ble_eq_true rfl, Nat.le_of_ble_eq_true rfl⟩) d_D_partSet_28 rfl rfl rfl rfl rfl (Nat.le_of_ble_eq_true rfl) ⟨Nat.le_of_ble_eq_true rfl, Nat.le_of_ble_eq_true rfl⟩ ?_
    refine z_cVl (pc := 31) K 1 (c_N_setOf _ _ _ hu) (cwA K 2 k198 k199 k200 k2 k201 q_N_setOf ⟨Nat.le_of_ble_eq_true rfl, Nat.le_of_ble_eq_true rfl⟩) d_D_partSet_31 rfl rfl rfl rfl rfl (Nat.le_of_ble_eq_true rfl) ⟨Nat.le_of_ble_eq_true rfl, Nat.le_of_ble_eq_true rfl⟩ ?_
    exact z_retl (pc := 34) ret d_D_partSet_34 (by simp [d_partSet, c12]) rfl
  · refine z_lconst (pc := 15) K (v := 0) d_D_partSet_15 (by decide) ?_
    exact z_retl (pc := 16) ret d_D_partSet_16 (by simp [d_partSet, c12]) rfl
set_option maxRecDepth 100000 in
set_option maxHeartbeats 4000000 in
theorem c_D_choose (u : US) (x : Int32) (hu : uOk u) : MI l D vwCl (CT cI cJ cC cZ) (CW a cI cJ cC) y_D_choose (wA y_D_choose prog_1_method_16_code 2 (some .boolean)) { frames := 2, cells := 0, slots := 0, locals := 44 } [.ref (a 0), .int x] u (bI ((d_choose u x).1)) (wH u (d_choose u x).2) := by
  refine MI.ofZ (cc := prog_1_method_16_code) (nL := 2) (by decide) rfl (Nat.le_of_ble_eq_true rfl) ?_
  intro p e s m below meth c A Q K ret
  refine z_lvE (lv' := [(0, .ref (a 0)), (1, .int x)]) rfl ?_
  refine z_aload_n (pc := 0) K d_D_choose_0 rfl ?_
  refine z_get (pc := 1) K (ref := "DemandTerms") d_D_choose_1 hi_D 0 rfl rfl 1 (by decide) k111 rfl rfl ?_
  refine z_iload_n (pc := 4) K d_D_choose_4 rfl ?_
  refine z_cVi (pc := 5) K 3 (c_T_has _ _ ) (cwA K 1 k165 k166 k167 k3 k168 q_T_has ⟨Nat.le_of_ble_eq_true rfl, Nat.le_of_ble_eq_true rfl⟩) d_D_choose_5 rfl rfl rfl rfl rfl (Nat.le_of_ble_eq_true rfl) ⟨Nat.le_of_ble_eq_true rfl, Nat.le_of_ble_eq_true rfl⟩ ?_
  refine z_ifb_ne (pc := 8) K (tgt := 13) d_D_choose_8 (by decide) (fun c8 => ?_) (fun c8 => ?_)
  · refine z_aload_n (pc := 13) K d_D_choose_13 rfl ?_
    refine z_aload_n (pc := 14) K d_D_choose_14 rfl ?_
    refine z_get (pc := 15) K (ref := "DemandTerms") d_D_choose_15 hi_D 0 rfl rfl 1 (by decide) k111 rfl rfl ?_
    refine z_iload_n (pc := 18) K d_D_choose_18 rfl ?_
    refine z_cVi (pc := 19) K 3 (c_T_nameOf _ _ hu) (cwA K 1 k169 k170 k171 k3 k172 q_T_nameOf ⟨Nat.le_of_ble_eq_true rfl, Nat.le_of_ble_eq_true rfl⟩) d_D_choose_19 rfl rfl rfl rfl rfl (Nat.le_of_ble_eq_true rfl) ⟨Nat.le_of_ble_eq_true rfl, Nat.le_of_ble_eq_true rfl⟩ ?_
    refine z_aload_n (pc := 22) K d_D_choose_22 rfl ?_
    refine z_get (pc := 23) K (ref := "DemandTerms") d_D_choose_23 hi_D 0 rfl rfl 1 (by decide) k111 rfl rfl ?_
    refine z_iload_n (pc := 26) K d_D_choose_26 rfl ?_
    refine z_cVl (pc := 27) K 3 (c_T_placesOf _ _ hu) (cwA K 1 k174 k175 k176 k3 k177 q_T_placesOf ⟨Nat.le_of_ble_eq_true rfl, Nat.le_of_ble_eq_true rfl⟩) d_D_choose_27 rfl rfl rfl rfl rfl (Nat.le_of_ble_eq_true rfl) ⟨Nat.le_of_ble_eq_true rfl, Nat.le_of_ble_eq_true rfl⟩ ?_
    refine z_cVv (pc := 30) K 0 (c_D_narrowChoice _ _ _ hu) (cwA K 2 k377 k379 ks5 k1 k380 q_D_narrowChoice ⟨Nat.le_of_ble_eq_true rfl, Nat.le_of_ble_eq_true rfl⟩) d_D_choose_30 rfl rfl rfl rfl rfl (Nat.le_of_ble_eq_true rfl) ⟨Nat.le_of_ble_eq_true rfl, Nat.le_of_ble_eq_true rfl⟩ ?_
    refine z_iconst (pc := 33) K (v := 1) d_D_choose_33 (by decide) ?_
    refine z_eqi (y := bI true) rfl ?_
    exact z_reti (pc := 34) ret d_D_choose_34 (by rw [d_choose, if_pos c8] <;> rfl) (by rw [d_choose, if_pos c8] <;> rfl)
  · refine z_iconst (pc := 11) K (v := 0) d_D_choose_11 (by decide) ?_
    refine z_eqi (y := bI false) rfl ?_
    exact z_reti (pc := 12) ret d_D_choose_12 (by rw [d_choose, if_neg (by rw [c8]; decide)] <;> rfl) (by rw [d_choose, if_neg (by rw [c8]; decide)] <;> rfl)
set_option maxRecDepth 100000 in
set_option maxHeartbeats 4000000 in
theorem c_D_forget (u : US)  (hu : uOk u) : MV l D vwCl (CT cI cJ cC cZ) (CW a cI cJ cC) y_D_forget (wA y_D_forget prog_1_method_17_code 2 none) { frames := 2, cells := 0, slots := 0, locals := 42 } [.ref (a 0)] u (wH u (d_forgetH u)) := by
  refine MV.of (cc := prog_1_method_17_code) (nL := 2) (by decide) rfl (Nat.le_of_ble_eq_true rfl) ?_
  intro p e s m below meth c A Q K ret
  refine z_lvE (lv' := [(0, .ref (a 0))]) rfl ?_
  have hb := hu.1
  refine z_iconst (pc := 0) K (v := 0) d_D_forget_0 (by decide) ?_
  refine z_istore_n (pc := 1) K d_D_forget_1 rfl (by decide) rfl ?_
  have LP : ∀ (n i : Nat) (h : Nat → Int64), i + n = (uN u).1 → d_fgl u n i h = d_forgetH u → zW p l e { frames := 2, cells := 0, slots := 0, locals := 42 } s m [.ref (a 0)].toArray below meth c D vwCl A 2 0 0 Q (CW a cI cJ cC (wH u h)) 2 [(1, .int (nI i)), (0, .ref (a 0))] [] := by
    intro n
    induction n with
    | zero =>
      intro i h hi hf
      refine z_iload_n (pc := 2) K d_D_forget_2 rfl ?_
      refine z_aload_n (pc := 3) K d_D_forget_3 rfl ?_
      refine z_get (pc := 4) K (ref := "DemandTerms") d_D_forget_4 hi_D 0 rfl rfl 0 (by decide) k110 rfl rfl ?_
      refine z_cVi (pc := 7) K 1 (c_N_size _ ) (cwA K 0 k325 k326 k327 k2 k328 q_N_size ⟨Nat.le_of_ble_eq_true rfl, Nat.le_of_ble_eq_true rfl⟩) d_D_forget_7 rfl rfl rfl rfl rfl (Nat.le_of_ble_eq_true rfl) ⟨Nat.le_of_ble_eq_true rfl, Nat.le_of_ble_eq_true rfl⟩ ?_
      refine z_icmp_ge (pc := 10) K (tgt := 33) d_D_forget_10 (by decide) (fun c10 => ?_) (fun c10 => ?_)
      · exact z_retv (pc := 33) ret d_D_forget_33 (by rw [← hf] <;> rfl)
      · exact absurd (nI_le (a := (uN u).1) (b := i) (by omega) (by omega)) c10
    | succ n ih =>
      intro i h hi hf
      refine z_iload_n (pc := 2) K d_D_forget_2 rfl ?_
      refine z_aload_n (pc := 3) K d_D_forget_3 rfl ?_
      refine z_get (pc := 4) K (ref := "DemandTerms") d_D_forget_4 hi_D 0 rfl rfl 0 (by decide) k110 rfl rfl ?_
      refine z_cVi (pc := 7) K 1 (c_N_size _ ) (cwA K 0 k325 k326 k327 k2 k328 q_N_size ⟨Nat.le_of_ble_eq_true rfl, Nat.le_of_ble_eq_true rfl⟩) d_D_forget_7 rfl rfl rfl rfl rfl (Nat.le_of_ble_eq_true rfl) ⟨Nat.le_of_ble_eq_true rfl, Nat.le_of_ble_eq_true rfl⟩ ?_
      refine z_icmp_ge (pc := 10) K (tgt := 33) d_D_forget_10 (by decide) (fun c10 => ?_) (fun c10 => ?_)
      · exact absurd c10 (nI_ge (a := i) (b := (uN u).1) (by omega) (by omega))
      · refine z_aload_n (pc := 13) K d_D_forget_13 rfl ?_
        refine z_get (pc := 14) K (ref := "DemandTerms") d_D_forget_14 hi_D 0 rfl rfl 4 (by decide) k114 rfl rfl ?_
        refine z_iload_n (pc := 17) K d_D_forget_17 rfl ?_
        refine z_aload_n (pc := 18) K d_D_forget_18 rfl ?_
        refine z_get (pc := 19) K (ref := "DemandTerms") d_D_forget_19 hi_D 0 rfl rfl 0 (by decide) k110 rfl rfl ?_
        refine z_iload_n (pc := 22) K d_D_forget_22 rfl ?_
        refine z_cVl (pc := 23) K 1 (c_N_everywhere (wH u h) _ (ok_h _ hu)) (cwA K 1 k138 k139 k140 k2 k141 q_N_everywhere ⟨Nat.le_of_ble_eq_true rfl, Nat.le_of_ble_eq_true rfl⟩) d_D_forget_23 rfl rfl rfl rfl rfl (Nat.le_of_ble_eq_true rfl) ⟨Nat.le_of_ble_eq_true rfl, Nat.le_of_ble_eq_true rfl⟩ ?_
        refine z_last (pc := 26) K (ws' := (CW a cI cJ cC (wH u (vp_updL h (nI i).toNatClampNeg (n_ev (uN u) (nI i)))))) d_D_forget_26 17 1 rfl rfl (vp_in_nI (by omega) (by decide)) rfl ?_
        refine z_iinc (pc := 27) K (v := nI (i + 1)) d_D_forget_27 0 rfl (inc1 i) (by decide) rfl ?_
        refine z_goto (pc := 30) K (tgt := 2) d_D_forget_30 (by decide) ?_
        refine z_lv [0, 1] rfl ?_
        exact ih (i + 1) _ (by omega) (by rw [← hf, d_fgl, nI_clamp (show i < 2 ^ 31 by omega)])
  refine z_lv [0, 1] rfl ?_
  exact LP (uN u).1 0 (uH u) (by omega) rfl
set_option maxRecDepth 100000 in
set_option maxHeartbeats 4000000 in
theorem c_D_state (u : US) (k : Int32) (hu : uOk u) : MI l D vwCl (CT cI cJ cC cZ) (CW a cI cJ cC) y_D_state (wA y_D_state prog_1_method_18_code 2 (some .int)) { frames := 5, cells := 0, slots := 0, locals := 111 } [.ref (a 0), .int k] u (d_state u k) (u) := by
  refine MI.of (cc := prog_1_method_18_code) (nL := 2) (by decide) rfl (Nat.le_of_ble_eq_true rfl) ?_
  intro p e s m below meth c A Q K ret
  refine z_lvE (lv' := [(0, .ref (a 0)), (1, .int k)]) rfl ?_
  refine z_aload_n (pc := 0) K d_D_state_0 rfl ?_
  refine z_get (pc := 1) K (ref := "DemandTerms") d_D_state_1 hi_D 0 rfl rfl 3 (by decide) k113 rfl rfl ?_
  refine z_iload_n (pc := 4) K d_D_state_4 rfl ?_
  refine z_cVi (pc := 5) K 12 (c_C_has _ _ ) (cwA K 1 k346 k261 k262 k5 k263 q_C_has ⟨Nat.le_of_ble_eq_true rfl, Nat.le_of_ble_eq_true rfl⟩) d_D_state_5 rfl rfl rfl rfl rfl (Nat.le_of_ble_eq_true rfl) ⟨Nat.le_of_ble_eq_true rfl, Nat.le_of_ble_eq_true rfl⟩ ?_
  refine z_ifb_eq (pc := 8) K (tgt := 19) d_D_state_8 (by decide) (fun c8 => ?_) (fun c8 => ?_)
  · refine z_bipush (pc := 19) K (v := (-2)) d_D_state_19 (by decide) ?_
    exact z_reti (pc := 21) ret d_D_state_21 (by simp [d_state, c8]) rfl
  · refine z_aload_n (pc := 11) K d_D_state_11 rfl ?_
    refine z_iload_n (pc := 12) K d_D_state_12 rfl ?_
    refine z_cVi (pc := 13) K 0 (c_D_stateOf _ _ hu) (cwA K 1 k389 k391 ks6 k1 k392 q_D_stateOf ⟨Nat.le_of_ble_eq_true rfl, Nat.le_of_ble_eq_true rfl⟩) d_D_state_13 rfl rfl rfl rfl rfl (Nat.le_of_ble_eq_true rfl) ⟨Nat.le_of_ble_eq_true rfl, Nat.le_of_ble_eq_true rfl⟩ ?_
    refine z_goto (pc := 16) K (tgt := 21) d_D_state_16 (by decide) ?_
    exact z_reti (pc := 21) ret d_D_state_21 (by simp [d_state, c8]) rfl
set_option maxRecDepth 100000 in
set_option maxHeartbeats 4000000 in
theorem c_D_forced (u : US) (k : Int32) (hu : uOk u) : MI l D vwCl (CT cI cJ cC cZ) (CW a cI cJ cC) y_D_forced (wA y_D_forced prog_1_method_19_code 2 (some .int)) { frames := 5, cells := 0, slots := 0, locals := 111 } [.ref (a 0), .int k] u (d_forced u k) (u) := by
  refine MI.of (cc := prog_1_method_19_code) (nL := 2) (by decide) rfl (Nat.le_of_ble_eq_true rfl) ?_
  intro p e s m below meth c A Q K ret
  refine z_lvE (lv' := [(0, .ref (a 0)), (1, .int k)]) rfl ?_
  refine z_aload_n (pc := 0) K d_D_forced_0 rfl ?_
  refine z_get (pc := 1) K (ref := "DemandTerms") d_D_forced_1 hi_D 0 rfl rfl 3 (by decide) k113 rfl rfl ?_
  refine z_iload_n (pc := 4) K d_D_forced_4 rfl ?_
  refine z_cVi (pc := 5) K 12 (c_C_has _ _ ) (cwA K 1 k346 k261 k262 k5 k263 q_C_has ⟨Nat.le_of_ble_eq_true rfl, Nat.le_of_ble_eq_true rfl⟩) d_D_forced_5 rfl rfl rfl rfl rfl (Nat.le_of_ble_eq_true rfl) ⟨Nat.le_of_ble_eq_true rfl, Nat.le_of_ble_eq_true rfl⟩ ?_
  refine z_ifb_eq (pc := 8) K (tgt := 20) d_D_forced_8 (by decide) (fun c8 => ?_) (fun c8 => ?_)
  · refine z_iconst (pc := 20) K (v := (-1)) d_D_forced_20 (by decide) ?_
    exact z_reti (pc := 21) ret d_D_forced_21 (by simp [d_forced, c8]) rfl
  · refine z_aload_n (pc := 11) K d_D_forced_11 rfl ?_
    refine z_iload_n (pc := 12) K d_D_forced_12 rfl ?_
    refine z_cVi (pc := 13) K 0 (c_D_stateOf _ _ hu) (cwA K 1 k389 k391 ks6 k1 k392 q_D_stateOf ⟨Nat.le_of_ble_eq_true rfl, Nat.le_of_ble_eq_true rfl⟩) d_D_forced_13 rfl rfl rfl rfl rfl (Nat.le_of_ble_eq_true rfl) ⟨Nat.le_of_ble_eq_true rfl, Nat.le_of_ble_eq_true rfl⟩ ?_
    refine z_iconst (pc := 16) K (v := 2) d_D_forced_16 (by decide) ?_
    refine z_icmp_eq (pc := 17) K (tgt := 22) d_D_forced_17 (by decide) (fun c17 => ?_) (fun c17 => ?_)
    · refine z_aload_n (pc := 22) K d_D_forced_22 rfl ?_
      refine z_get (pc := 23) K (ref := "DemandTerms") d_D_forced_23 hi_D 0 rfl rfl 3 (by decide) k113 rfl rfl ?_
      refine z_iload_n (pc := 26) K d_D_forced_26 rfl ?_
      refine z_aload_n (pc := 27) K d_D_forced_27 rfl ?_
      refine z_iload_n (pc := 28) K d_D_forced_28 rfl ?_
      refine z_cVi (pc := 29) K 0 (c_D_openName _ _ hu) (cwA K 1 k401 k403 ks8 k1 k404 q_D_openName ⟨Nat.le_of_ble_eq_true rfl, Nat.le_of_ble_eq_true rfl⟩) d_D_forced_29 rfl rfl rfl rfl rfl (Nat.le_of_ble_eq_true rfl) ⟨Nat.le_of_ble_eq_true rfl, Nat.le_of_ble_eq_true rfl⟩ ?_
      refine z_cVi (pc := 32) K 12 (c_C_indexOf _ _ _ hu) (cwA K 2 k405 k366 k367 k5 k368 q_C_indexOf ⟨Nat.le_of_ble_eq_true rfl, Nat.le_of_ble_eq_true rfl⟩) d_D_forced_32 rfl rfl rfl rfl rfl (Nat.le_of_ble_eq_true rfl) ⟨Nat.le_of_ble_eq_true rfl, Nat.le_of_ble_eq_true rfl⟩ ?_
      exact z_reti (pc := 35) ret d_D_forced_35 (by simp [d_forced, c8, c17]) rfl
    · refine z_iconst (pc := 20) K (v := (-1)) d_D_forced_20 (by decide) ?_
      exact z_reti (pc := 21) ret d_D_forced_21 (by simp [d_forced, c8, c17]) rfl
set_option maxRecDepth 100000 in
set_option maxHeartbeats 4000000 in
theorem c_D_chosen (u : US) (x : Int32) (w : Int32) (hu : uOk u) : MI l D vwCl (CT cI cJ cC cZ) (CW a cI cJ cC) y_D_chosen (wA y_D_chosen prog_1_method_21_code 3 (some .int)) { frames := 4, cells := 0, slots := 0, locals := 89 } [.ref (a 0), .int x, .int w] u (d_chosen u x w) (u) := by
  refine MI.of (cc := prog_1_method_21_code) (nL := 3) (by decide) rfl (Nat.le_of_ble_eq_true rfl) ?_
  intro p e s m below meth c A Q K ret
  refine z_lvE (lv' := [(0, .ref (a 0)), (1, .int x), (2, .int w)]) rfl ?_
  refine z_aload_n (pc := 0) K d_D_chosen_0 rfl ?_
  refine z_get (pc := 1) K (ref := "DemandTerms") d_D_chosen_1 hi_D 0 rfl rfl 0 (by decide) k110 rfl rfl ?_
  refine z_iload_n (pc := 4) K d_D_chosen_4 rfl ?_
  refine z_cVi (pc := 5) K 1 (c_N_has _ _ ) (cwA K 1 k150 k143 k144 k2 k145 q_N_has ⟨Nat.le_of_ble_eq_true rfl, Nat.le_of_ble_eq_true rfl⟩) d_D_chosen_5 rfl rfl rfl rfl rfl (Nat.le_of_ble_eq_true rfl) ⟨Nat.le_of_ble_eq_true rfl, Nat.le_of_ble_eq_true rfl⟩ ?_
  refine z_ifb_eq (pc := 8) K (tgt := 26) d_D_chosen_8 (by decide) (fun c8 => ?_) (fun c8 => ?_)
  · refine z_iconst (pc := 26) K (v := (-1)) d_D_chosen_26 (by decide) ?_
    exact z_reti (pc := 27) ret d_D_chosen_27 (by simp [d_chosen, c8]) rfl
  · refine z_aload_n (pc := 11) K d_D_chosen_11 rfl ?_
    refine z_iload_n (pc := 12) K d_D_chosen_12 rfl ?_
    refine z_aload_n (pc := 13) K d_D_chosen_13 rfl ?_
    refine z_get (pc := 14) K (ref := "DemandTerms") d_D_chosen_14 hi_D 0 rfl rfl 4 (by decide) k114 rfl rfl ?_
    refine z_iload_n (pc := 17) K d_D_chosen_17 rfl ?_
    refine z_lald (pc := 18) K d_D_chosen_18 17 1 rfl rfl (hasIx_in c8 hu.1 (by decide)) ?_
    refine z_iload_n (pc := 19) K d_D_chosen_19 rfl ?_
    refine z_cVi (pc := 20) K 0 (c_D_describe _ _ _ _ hu) (cwA K 3 k190 k192 ks0 k1 k193 q_D_describe ⟨Nat.le_of_ble_eq_true rfl, Nat.le_of_ble_eq_true rfl⟩) d_D_chosen_20 rfl rfl rfl rfl rfl (Nat.le_of_ble_eq_true rfl) ⟨Nat.le_of_ble_eq_true rfl, Nat.le_of_ble_eq_true rfl⟩ ?_
    refine z_goto (pc := 23) K (tgt := 27) d_D_chosen_23 (by decide) ?_
    exact z_reti (pc := 27) ret d_D_chosen_27 (by simp [d_chosen, c8]) rfl
set_option maxRecDepth 100000 in
set_option maxHeartbeats 4000000 in
theorem c_D_chosenSet (u : US) (x : Int32) (hu : uOk u) : ML l D vwCl (CT cI cJ cC cZ) (CW a cI cJ cC) y_D_chosenSet (wA y_D_chosenSet prog_1_method_22_code 2 (some .long)) { frames := 3, cells := 0, slots := 0, locals := 65 } [.ref (a 0), .int x] u (d_chosenSet u x) (u) := by
  refine ML.of (cc := prog_1_method_22_code) (nL := 2) (by decide) rfl (Nat.le_of_ble_eq_true rfl) ?_
  intro p e s m below meth c A Q K ret
  refine z_lvE (lv' := [(0, .ref (a 0)), (1, .int x)]) rfl ?_
  refine z_aload_n (pc := 0) K d_D_chosenSet_0 rfl ?_
  refine z_get (pc := 1) K (ref := "DemandTerms") d_D_chosenSet_1 hi_D 0 rfl rfl 0 (by decide) k110 rfl rfl ?_
  refine z_iload_n (pc := 4) K d_D_chosenSet_4 rfl ?_
  refine z_cVi (pc := 5) K 1 (c_N_has _ _ ) (cwA K 1 k150 k143 k144 k2 k145 q_N_has ⟨Nat.le_of_ble_eq_true rfl, Nat.le_of_ble_eq_true rfl⟩) d_D_chosenSet_5 rfl rfl rfl rfl rfl (Nat.le_of_ble_eq_true rfl) ⟨Nat.le_of_ble_eq_true rfl, Nat.le_of_ble_eq_true rfl⟩ ?_
  refine z_ifb_eq (pc := 8) K (tgt := 28) d_D_chosenSet_8 (by decide) (fun c8 => ?_) (fun c8 => ?_)
  · refine z_lconst (pc := 28) K (v := 0) d_D_chosenSet_28 (by decide) ?_
    exact z_retl (pc := 29) ret d_D_chosenSet_29 (by simp [d_chosenSet, c8]) rfl
  · refine z_aload_n (pc := 11) K d_D_chosenSet_11 rfl ?_
    refine z_get (pc := 12) K (ref := "DemandTerms") d_D_chosenSet_12 hi_D 0 rfl rfl 0 (by decide) k110 rfl rfl ?_
    refine z_iload_n (pc := 15) K d_D_chosenSet_15 rfl ?_
    refine z_aload_n (pc := 16) K d_D_chosenSet_16 rfl ?_
    refine z_get (pc := 17) K (ref := "DemandTerms") d_D_chosenSet_17 hi_D 0 rfl rfl 4 (by decide) k114 rfl rfl ?_
    refine z_iload_n (pc := 20) K d_D_chosenSet_20 rfl ?_
    refine z_lald (pc := 21) K d_D_chosenSet_21 17 1 rfl rfl (hasIx_in c8 hu.1 (by decide)) ?_
    refine z_cVl (pc := 22) K 1 (c_N_setOf _ _ _ hu) (cwA K 2 k198 k199 k200 k2 k201 q_N_setOf ⟨Nat.le_of_ble_eq_true rfl, Nat.le_of_ble_eq_true rfl⟩) d_D_chosenSet_22 rfl rfl rfl rfl rfl (Nat.le_of_ble_eq_true rfl) ⟨Nat.le_of_ble_eq_true rfl, Nat.le_of_ble_eq_true rfl⟩ ?_
    refine z_goto (pc := 25) K (tgt := 29) d_D_chosenSet_25 (by decide) ?_
    exact z_retl (pc := 29) ret d_D_chosenSet_29 (by simp [d_chosenSet, c8]) rfl
set_option maxRecDepth 100000 in
set_option maxHeartbeats 4000000 in
theorem c_D_spread (u : US)  (hu : uOk u) : MI l D vwCl (CT cI cJ cC cZ) (CW a cI cJ cC) y_D_spread (wA y_D_spread prog_1_method_20_code 5 (some .int)) { frames := 6, cells := 0, slots := 0, locals := 132 } [.ref (a 0)] u ((d_spread u).1) (wH u (d_spread u).2) := by
  refine MI.of (cc := prog_1_method_20_code) (nL := 5) (by decide) rfl (Nat.le_of_ble_eq_true rfl) ?_
  intro p e s m below meth c A Q K ret
  refine z_lvE (lv' := [(0, .ref (a 0))]) rfl ?_
  have hb := hu.2.2.2.1
  refine z_iconst (pc := 0) K (v := 1) d_D_spread_0 (by decide) ?_
  refine z_istore_n (pc := 1) K d_D_spread_1 rfl (by decide) rfl ?_
  refine z_iconst (pc := 2) K (v := 0) d_D_spread_2 (by decide) ?_
  refine z_istore_n (pc := 3) K d_D_spread_3 rfl (by decide) rfl ?_
  have LP : ∀ (n r : Nat) (f : Int32) (h : Nat → Int64), r + n = 785 → d_spo u n f h = d_spread u → zW p l e { frames := 6, cells := 0, slots := 0, locals := 132 } s m [.ref (a 0)].toArray below meth c D vwCl A 5 0 0 Q (CW a cI cJ cC (wH u h)) 4 [(2, .int (nI r)), (1, .int f), (0, .ref (a 0))] [] := by
    intro n
    induction n with
    | zero =>
      intro r f h hi hf
      refine z_iload_n (pc := 4) K d_D_spread_4 rfl ?_
      refine z_if_eq (pc := 5) K (tgt := 73) d_D_spread_5 (by decide) (fun c5 => ?_) (fun c5 => ?_)
      · refine z_iconst (pc := 73) K (v := (-1)) d_D_spread_73 (by decide) ?_
        exact z_reti (pc := 74) ret d_D_spread_74 (by rw [← hf] <;> rfl) (by rw [← hf] <;> rfl)
      · refine z_iload_n (pc := 8) K d_D_spread_8 rfl ?_
        refine z_sipush (pc := 9) K (v := 785) d_D_spread_9 (by decide) ?_
        refine z_icmp_ge (pc := 12) K (tgt := 73) d_D_spread_12 (by decide) (fun c12 => ?_) (fun c12 => ?_)
        · refine z_iconst (pc := 73) K (v := (-1)) d_D_spread_73 (by decide) ?_
          exact z_reti (pc := 74) ret d_D_spread_74 (by rw [← hf] <;> rfl) (by rw [← hf] <;> rfl)
        · exact absurd (nI_le (a := 785) (b := r) (by omega) (by omega)) c12
    | succ n ih =>
      intro r f h hi hf
      refine z_iload_n (pc := 4) K d_D_spread_4 rfl ?_
      refine z_if_eq (pc := 5) K (tgt := 73) d_D_spread_5 (by decide) (fun c5 => ?_) (fun c5 => ?_)
      · refine z_iconst (pc := 73) K (v := (-1)) d_D_spread_73 (by decide) ?_
        exact z_reti (pc := 74) ret d_D_spread_74 (by rw [← hf, d_spo, if_pos c5] <;> rfl) (by rw [← hf, d_spo, if_pos c5] <;> rfl)
      · refine z_iload_n (pc := 8) K d_D_spread_8 rfl ?_
        refine z_sipush (pc := 9) K (v := 785) d_D_spread_9 (by decide) ?_
        refine z_icmp_ge (pc := 12) K (tgt := 73) d_D_spread_12 (by decide) (fun c12 => ?_) (fun c12 => ?_)
        · exact absurd c12 (nI_ge (a := r) (b := 785) (by omega) (by omega))
        · refine z_iconst (pc := 15) K (v := 0) d_D_spread_15 (by decide) ?_
          refine z_istore_n (pc := 16) K d_D_spread_16 rfl (by decide) rfl ?_
          refine z_iconst (pc := 17) K (v := 0) d_D_spread_17 (by decide) ?_
          refine z_istore_n (pc := 18) K d_D_spread_18 rfl (by decide) rfl ?_
          have LQ : ∀ (n2 k : Nat) (f2 : Int32) (h2 : Nat → Int64), k + n2 = (uC u).1 → d_spi u n2 k f2 h2 = d_spi u (uC u).1 0 0 h → zW p l e { frames := 6, cells := 0, slots := 0, locals := 132 } s m [.ref (a 0)].toArray below meth c D vwCl A 5 0 0 Q (CW a cI cJ cC (wH u h2)) 19 [(3, .int (nI k)), (1, .int f2), (2, .int (nI r)), (0, .ref (a 0))] [] := by
            intro n2
            induction n2 with
            | zero =>
              intro k f2 h2 hi2 hf2
              refine z_iload_n (pc := 19) K d_D_spread_19 rfl ?_
              refine z_aload_n (pc := 20) K d_D_spread_20 rfl ?_
              refine z_get (pc := 21) K (ref := "DemandTerms") d_D_spread_21 hi_D 0 rfl rfl 3 (by decide) k113 rfl rfl ?_
              refine z_cVi (pc := 24) K 12 (c_C_size _ ) (cwA K 0 k232 k233 k234 k5 k235 q_C_size ⟨Nat.le_of_ble_eq_true rfl, Nat.le_of_ble_eq_true rfl⟩) d_D_spread_24 rfl rfl rfl rfl rfl (Nat.le_of_ble_eq_true rfl) ⟨Nat.le_of_ble_eq_true rfl, Nat.le_of_ble_eq_true rfl⟩ ?_
              refine z_icmp_ge (pc := 27) K (tgt := 67) d_D_spread_27 (by decide) (fun c27 => ?_) (fun c27 => ?_)
              · have hm : d_spi u (uC u).1 0 0 h = (none, f2, h2) := by rw [← hf2] <;> rfl
                refine z_iinc (pc := 67) K (v := nI (r + 1)) d_D_spread_67 2 rfl (inc1 r) (by decide) rfl ?_
                refine z_goto (pc := 70) K (tgt := 4) d_D_spread_70 (by decide) ?_
                refine z_lv [0, 2, 3] rfl ?_
                exact ih (r + 1) _ _ (by omega) (by rw [← hf]; simp [d_spo, c5, hm])
              · exact absurd (nI_le (a := (uC u).1) (b := k) (by omega) (by omega)) c27
            | succ n2 ih =>
              intro k f2 h2 hi2 hf2
              refine z_iload_n (pc := 19) K d_D_spread_19 rfl ?_
              refine z_aload_n (pc := 20) K d_D_spread_20 rfl ?_
              refine z_get (pc := 21) K (ref := "DemandTerms") d_D_spread_21 hi_D 0 rfl rfl 3 (by decide) k113 rfl rfl ?_
              refine z_cVi (pc := 24) K 12 (c_C_size _ ) (cwA K 0 k232 k233 k234 k5 k235 q_C_size ⟨Nat.le_of_ble_eq_true rfl, Nat.le_of_ble_eq_true rfl⟩) d_D_spread_24 rfl rfl rfl rfl rfl (Nat.le_of_ble_eq_true rfl) ⟨Nat.le_of_ble_eq_true rfl, Nat.le_of_ble_eq_true rfl⟩ ?_
              refine z_icmp_ge (pc := 27) K (tgt := 67) d_D_spread_27 (by decide) (fun c27 => ?_) (fun c27 => ?_)
              · exact absurd c27 (nI_ge (a := k) (b := (uC u).1) (by omega) (by omega))
              · refine z_aload_n (pc := 30) K d_D_spread_30 rfl ?_
                refine z_iload_n (pc := 31) K d_D_spread_31 rfl ?_
                refine z_cVi (pc := 32) K 0 (c_D_stateOf (wH u h2) _ (ok_h _ hu)) (cwA K 1 k389 k391 ks6 k1 k392 q_D_stateOf ⟨Nat.le_of_ble_eq_true rfl, Nat.le_of_ble_eq_true rfl⟩) d_D_spread_32 rfl rfl rfl rfl rfl (Nat.le_of_ble_eq_true rfl) ⟨Nat.le_of_ble_eq_true rfl, Nat.le_of_ble_eq_true rfl⟩ ?_
                refine z_istore (pc := 35) K d_D_spread_35 (by decide) rfl ?_
                refine z_iload (pc := 37) K d_D_spread_37 rfl ?_
                refine z_iconst (pc := 39) K (v := 1) d_D_spread_39 (by decide) ?_
                refine z_icmp_ne (pc := 40) K (tgt := 48) d_D_spread_40 (by decide) (fun c40 => ?_) (fun c40 => ?_)
                · refine z_iload (pc := 48) K d_D_spread_48 rfl ?_
                  refine z_iconst (pc := 50) K (v := 2) d_D_spread_50 (by decide) ?_
                  refine z_icmp_ne (pc := 51) K (tgt := 61) d_D_spread_51 (by decide) (fun c51 => ?_) (fun c51 => ?_)
                  · refine z_iinc (pc := 61) K (v := nI (k + 1)) d_D_spread_61 1 rfl (inc1 k) (by decide) rfl ?_
                    refine z_goto (pc := 64) K (tgt := 19) d_D_spread_64 (by decide) ?_
                    refine z_lv [0, 2, 3, 4] rfl ?_
                    exact ih (k + 1) _ _ (by omega) (by rw [← hf2]; simp [d_spi, c40, c51])
                  · refine z_aload_n (pc := 54) K d_D_spread_54 rfl ?_
                    refine z_iload_n (pc := 55) K d_D_spread_55 rfl ?_
                    refine z_cVv (pc := 56) K 0 (c_D_force (wH u h2) _ (ok_h _ hu)) (cwA K 1 k414 k416 ks10 k1 k417 q_D_force ⟨Nat.le_of_ble_eq_true rfl, Nat.le_of_ble_eq_true rfl⟩) d_D_spread_56 rfl rfl rfl rfl rfl (Nat.le_of_ble_eq_true rfl) ⟨Nat.le_of_ble_eq_true rfl, Nat.le_of_ble_eq_true rfl⟩ ?_
                    refine z_iconst (pc := 59) K (v := 1) d_D_spread_59 (by decide) ?_
                    refine z_istore_n (pc := 60) K d_D_spread_60 rfl (by decide) rfl ?_
                    refine z_iinc (pc := 61) K (v := nI (k + 1)) d_D_spread_61 2 rfl (inc1 k) (by decide) rfl ?_
                    refine z_goto (pc := 64) K (tgt := 19) d_D_spread_64 (by decide) ?_
                    refine z_lv [0, 1, 3, 4] rfl ?_
                    exact ih (k + 1) _ _ (by omega) (by rw [← hf2]; simp [d_spi, c40, c51])
                · have hm : d_spi u (uC u).1 0 0 h = (some (d_fk (wH u h2)), f2, h2) := by rw [← hf2]; simp [d_spi, c40]
                  refine z_aload_n (pc := 43) K d_D_spread_43 rfl ?_
                  refine z_cVi (pc := 44) K 0 (c_D_firstKept (wH u h2) (ok_h _ hu)) (cwA K 0 k410 k412 ks9 k1 k413 q_D_firstKept ⟨Nat.le_of_ble_eq_true rfl, Nat.le_of_ble_eq_true rfl⟩) d_D_spread_44 rfl rfl rfl rfl rfl (Nat.le_of_ble_eq_true rfl) ⟨Nat.le_of_ble_eq_true rfl, Nat.le_of_ble_eq_true rfl⟩ ?_
                  exact z_reti (pc := 47) ret d_D_spread_47 (by rw [← hf]; simp [d_spo, c5, hm]) (by rw [← hf]; simp [d_spo, c5, hm])
          refine z_lv [0, 1, 2, 3] rfl ?_
          exact LQ (uC u).1 0 0 h (by omega) rfl
  refine z_lv [0, 1, 2] rfl ?_
  exact LP 785 0 1 (uH u) rfl rfl
end CM
