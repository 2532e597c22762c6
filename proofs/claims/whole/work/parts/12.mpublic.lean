section CM
variable {l : Launch} {D : va_G} {a : Nat → Nat} {cI cJ cC cZ : ClassId}
set_option maxRecDepth 100000 in
set_option maxHeartbeats 4000000 in
theorem m_count_c (v : MS)   : MI l D vwCl (CT cI cJ cC cZ) (MW a cI cJ cZ) y_M_count (wA y_M_count prog_8_method_36_code 1 (some .int)) { frames := 0, cells := 0, slots := 0, locals := 0 } [.ref (a 0)] v (nI (mB v)) (v) := by
  refine MI.of (cc := prog_8_method_36_code) (nL := 1) (by decide) rfl (Nat.le_of_ble_eq_true rfl) ?_
  intro p e s m below meth c A Q K ret
  refine z_lvE (lv' := [(0, .ref (a 0))]) rfl ?_
  refine z_aload_n (pc := 0) K d_M_count_0 rfl ?_
  refine z_iconst (pc := 1) K (v := 0) d_M_count_1 (by decide) ?_
  refine z_put (pc := 2) K (ref := "DemandTermsModel") (ws' := (MW a cI cJ cZ v)) d_M_count_2 hi_M ty_M ty_M_ok nm_M 0 rfl rfl 0 (by decide) k472 rfl rfl rfl rfl rfl (Nat.le_of_ble_eq_true rfl) rfl ?_
  refine z_aload_n (pc := 5) K d_M_count_5 rfl ?_
  refine z_get (pc := 6) K (ref := "DemandTermsModel") d_M_count_6 hi_M 0 rfl rfl 4 (by decide) k476 rfl rfl ?_
  exact z_reti (pc := 9) ret d_M_count_9 rfl rfl
set_option maxRecDepth 100000 in
set_option maxHeartbeats 4000000 in
theorem m_terms_c (v : MS) (k : Int32) (hm : mOk v) : MI l D vwCl (CT cI cJ cC cZ) (MW a cI cJ cZ) y_M_terms (wA y_M_terms prog_8_method_37_code 2 (some .int)) { frames := 1, cells := 0, slots := 0, locals := 21 } [.ref (a 0), .int k] v (m_terms v k) (v) := by
  refine MI.of (cc := prog_8_method_37_code) (nL := 2) (by decide) rfl (Nat.le_of_ble_eq_true rfl) ?_
  intro p e s m below meth c A Q K ret
  refine z_lvE (lv' := [(0, .ref (a 0)), (1, .int k)]) rfl ?_
  obtain ⟨⟨hm1, hm2, hm3, hm4⟩, hmV, hmn, hmq, hmp⟩ := id hm
  refine z_aload_n (pc := 0) K d_M_terms_0 rfl ?_
  refine z_iconst (pc := 1) K (v := 0) d_M_terms_1 (by decide) ?_
  refine z_put (pc := 2) K (ref := "DemandTermsModel") (ws' := (MW a cI cJ cZ v)) d_M_terms_2 hi_M ty_M ty_M_ok nm_M 0 rfl rfl 0 (by decide) k472 rfl rfl rfl rfl rfl (Nat.le_of_ble_eq_true rfl) rfl ?_
  refine z_aload_n (pc := 5) K d_M_terms_5 rfl ?_
  refine z_iload_n (pc := 6) K d_M_terms_6 rfl ?_
  refine z_cVi (pc := 7) K 0 (m_isBar_c _ _ ) (cwA K 1 k664 k666 ks34 k7 k667 q_M_isBar ⟨Nat.le_of_ble_eq_true rfl, Nat.le_of_ble_eq_true rfl⟩) d_M_terms_7 rfl rfl rfl rfl rfl (Nat.le_of_ble_eq_true rfl) ⟨Nat.le_of_ble_eq_true rfl, Nat.le_of_ble_eq_true rfl⟩ ?_
  refine z_ifb_eq (pc := 10) K (tgt := 22) d_M_terms_10 (by decide) (fun c10 => ?_) (fun c10 => ?_)
  · refine z_iconst (pc := 22) K (v := (-1)) d_M_terms_22 (by decide) ?_
    exact z_reti (pc := 23) ret d_M_terms_23 (by simp [m_terms, c10]) rfl
  · refine z_aload_n (pc := 13) K d_M_terms_13 rfl ?_
    refine z_get (pc := 14) K (ref := "DemandTermsModel") d_M_terms_14 hi_M 0 rfl rfl 8 (by decide) k480 rfl rfl ?_
    refine z_iload_n (pc := 17) K d_M_terms_17 rfl ?_
    refine z_iald (pc := 18) K d_M_terms_18 4 0 rfl rfl (hasIx_in c10 hm3 (by decide)) ?_
    refine z_goto (pc := 19) K (tgt := 23) d_M_terms_19 (by decide) ?_
    exact z_reti (pc := 23) ret d_M_terms_23 (by simp [m_terms, c10]) rfl
set_option maxRecDepth 100000 in
set_option maxHeartbeats 4000000 in
theorem m_isPart_c (v : MS) (k : Int32) (i : Int32) (hm : mOk v) : MI l D vwCl (CT cI cJ cC cZ) (MW a cI cJ cZ) y_M_isPart (wA y_M_isPart prog_8_method_38_code 3 (some .boolean)) { frames := 1, cells := 0, slots := 0, locals := 21 } [.ref (a 0), .int k, .int i] v (bI (m_isPt v k i)) (v) := by
  refine MI.ofZ (cc := prog_8_method_38_code) (nL := 3) (by decide) rfl (Nat.le_of_ble_eq_true rfl) ?_
  intro p e s m below meth c A Q K ret
  refine z_lvE (lv' := [(0, .ref (a 0)), (1, .int k), (2, .int i)]) rfl ?_
  obtain ⟨⟨hm1, hm2, hm3, hm4⟩, hmV, hmn, hmq, hmp⟩ := id hm
  refine z_aload_n (pc := 0) K d_M_isPart_0 rfl ?_
  refine z_iload_n (pc := 1) K d_M_isPart_1 rfl ?_
  refine z_cVi (pc := 2) K 0 (m_isBar_c _ _ ) (cwA K 1 k664 k666 ks34 k7 k667 q_M_isBar ⟨Nat.le_of_ble_eq_true rfl, Nat.le_of_ble_eq_true rfl⟩) d_M_isPart_2 rfl rfl rfl rfl rfl (Nat.le_of_ble_eq_true rfl) ⟨Nat.le_of_ble_eq_true rfl, Nat.le_of_ble_eq_true rfl⟩ ?_
  refine z_ifb_eq (pc := 5) K (tgt := 26) d_M_isPart_5 (by decide) (fun c5 => ?_) (fun c5 => ?_)
  · refine z_iconst (pc := 26) K (v := 0) d_M_isPart_26 (by decide) ?_
    refine z_eqi (y := bI false) rfl ?_
    exact z_reti (pc := 27) ret d_M_isPart_27 (by simp [m_isPt, c5]) rfl
  · refine z_iload_n (pc := 8) K d_M_isPart_8 rfl ?_
    refine z_if_lt (pc := 9) K (tgt := 26) d_M_isPart_9 (by decide) (fun c9 => ?_) (fun c9 => ?_)
    · refine z_iconst (pc := 26) K (v := 0) d_M_isPart_26 (by decide) ?_
      refine z_eqi (y := bI false) rfl ?_
      exact z_reti (pc := 27) ret d_M_isPart_27 (by simp [m_isPt, c5, c9]) rfl
    · refine z_iload_n (pc := 12) K d_M_isPart_12 rfl ?_
      refine z_aload_n (pc := 13) K d_M_isPart_13 rfl ?_
      refine z_get (pc := 14) K (ref := "DemandTermsModel") d_M_isPart_14 hi_M 0 rfl rfl 8 (by decide) k480 rfl rfl ?_
      refine z_iload_n (pc := 17) K d_M_isPart_17 rfl ?_
      refine z_iald (pc := 18) K d_M_isPart_18 4 0 rfl rfl (hasIx_in c5 hm3 (by decide)) ?_
      refine z_icmp_ge (pc := 19) K (tgt := 26) d_M_isPart_19 (by decide) (fun c19 => ?_) (fun c19 => ?_)
      · refine z_iconst (pc := 26) K (v := 0) d_M_isPart_26 (by decide) ?_
        refine z_eqi (y := bI false) rfl ?_
        exact z_reti (pc := 27) ret d_M_isPart_27 (by simp [m_isPt, c5, c9, c19]) rfl
      · refine z_iconst (pc := 22) K (v := 1) d_M_isPart_22 (by decide) ?_
        refine z_goto (pc := 23) K (tgt := 27) d_M_isPart_23 (by decide) ?_
        refine z_eqi (y := bI true) rfl ?_
        exact z_reti (pc := 27) ret d_M_isPart_27 (by simp [m_isPt, c5, c9, c19]) rfl
set_option maxRecDepth 100000 in
set_option maxHeartbeats 4000000 in
theorem m_part_c (v : MS) (k : Int32) (i : Int32) (w : Int32) (hm : mOk v) : MI l D vwCl (CT cI cJ cC cZ) (MW a cI cJ cZ) y_M_part (wA y_M_part prog_8_method_39_code 4 (some .int)) { frames := 4, cells := 0, slots := 0, locals := 89 } [.ref (a 0), .int k, .int i, .int w] v (m_part v k i w) (v) := by
  refine MI.of (cc := prog_8_method_39_code) (nL := 4) (by decide) rfl (Nat.le_of_ble_eq_true rfl) ?_
  intro p e s m below meth c A Q K ret
  refine z_lvE (lv' := [(0, .ref (a 0)), (1, .int k), (2, .int i), (3, .int w)]) rfl ?_
  obtain ⟨⟨hm1, hm2, hm3, hm4⟩, hmV, hmn, hmq, hmp⟩ := id hm
  refine z_aload_n (pc := 0) K d_M_part_0 rfl ?_
  refine z_iconst (pc := 1) K (v := 0) d_M_part_1 (by decide) ?_
  refine z_put (pc := 2) K (ref := "DemandTermsModel") (ws' := (MW a cI cJ cZ v)) d_M_part_2 hi_M ty_M ty_M_ok nm_M 0 rfl rfl 0 (by decide) k472 rfl rfl rfl rfl rfl (Nat.le_of_ble_eq_true rfl) rfl ?_
  refine z_aload_n (pc := 5) K d_M_part_5 rfl ?_
  refine z_iload_n (pc := 6) K d_M_part_6 rfl ?_
  refine z_iload_n (pc := 7) K d_M_part_7 rfl ?_
  refine z_cVi (pc := 8) K 0 (m_isPart_c _ _ _ hm) (cwA K 2 k684 k686 ks36 k7 k687 q_M_isPart ⟨Nat.le_of_ble_eq_true rfl, Nat.le_of_ble_eq_true rfl⟩) d_M_part_8 rfl rfl rfl rfl rfl (Nat.le_of_ble_eq_true rfl) ⟨Nat.le_of_ble_eq_true rfl, Nat.le_of_ble_eq_true rfl⟩ ?_
  refine z_ifb_eq (pc := 11) K (tgt := 32) d_M_part_11 (by decide) (fun c11 => ?_) (fun c11 => ?_)
  · refine z_iconst (pc := 32) K (v := (-1)) d_M_part_32 (by decide) ?_
    exact z_reti (pc := 33) ret d_M_part_33 (by simp [m_part, c11]) rfl
  · refine z_aload_n (pc := 14) K d_M_part_14 rfl ?_
    refine z_sipush (pc := 15) K (v := 600) d_M_part_15 (by decide) ?_
    refine z_bipush (pc := 18) K (v := 16) d_M_part_18 (by decide) ?_
    refine z_iload_n (pc := 20) K d_M_part_20 rfl ?_
    refine z_imul (pc := 21) K d_M_part_21 ?_
    refine z_iadd (pc := 22) K d_M_part_22 ?_
    refine z_iload_n (pc := 23) K d_M_part_23 rfl ?_
    refine z_iadd (pc := 24) K d_M_part_24 ?_
    refine z_eqi (slot_e hm c11) ?_
    refine z_iload_n (pc := 25) K d_M_part_25 rfl ?_
    refine z_cVi (pc := 26) K 0 (m_aboutOf_c _ (m_slot k i) _ (slot_lt hm c11) (hmn _) (hmV _)) (cwA K 2 k592 k594 ks21 k7 k595 q_M_aboutOf ⟨Nat.le_of_ble_eq_true rfl, Nat.le_of_ble_eq_true rfl⟩) d_M_part_26 rfl rfl rfl rfl rfl (Nat.le_of_ble_eq_true rfl) ⟨Nat.le_of_ble_eq_true rfl, Nat.le_of_ble_eq_true rfl⟩ ?_
    refine z_goto (pc := 29) K (tgt := 33) d_M_part_29 (by decide) ?_
    exact z_reti (pc := 33) ret d_M_part_33 (by simp [m_part, c11]) rfl
set_option maxRecDepth 100000 in
set_option maxHeartbeats 4000000 in
theorem m_partSet_c (v : MS) (k : Int32) (i : Int32) (hm : mOk v) : ML l D vwCl (CT cI cJ cC cZ) (MW a cI cJ cZ) y_M_partSet (wA y_M_partSet prog_8_method_40_code 3 (some .long)) { frames := 4, cells := 0, slots := 0, locals := 89 } [.ref (a 0), .int k, .int i] v (m_partSet v k i) (v) := by
  refine ML.of (cc := prog_8_method_40_code) (nL := 3) (by decide) rfl (Nat.le_of_ble_eq_true rfl) ?_
  intro p e s m below meth c A Q K ret
  refine z_lvE (lv' := [(0, .ref (a 0)), (1, .int k), (2, .int i)]) rfl ?_
  obtain ⟨⟨hm1, hm2, hm3, hm4⟩, hmV, hmn, hmq, hmp⟩ := id hm
  refine z_aload_n (pc := 0) K d_M_partSet_0 rfl ?_
  refine z_iconst (pc := 1) K (v := 0) d_M_partSet_1 (by decide) ?_
  refine z_put (pc := 2) K (ref := "DemandTermsModel") (ws' := (MW a cI cJ cZ v)) d_M_partSet_2 hi_M ty_M ty_M_ok nm_M 0 rfl rfl 0 (by decide) k472 rfl rfl rfl rfl rfl (Nat.le_of_ble_eq_true rfl) rfl ?_
  refine z_aload_n (pc := 5) K d_M_partSet_5 rfl ?_
  refine z_iload_n (pc := 6) K d_M_partSet_6 rfl ?_
  refine z_iload_n (pc := 7) K d_M_partSet_7 rfl ?_
  refine z_cVi (pc := 8) K 0 (m_isPart_c _ _ _ hm) (cwA K 2 k684 k686 ks36 k7 k687 q_M_isPart ⟨Nat.le_of_ble_eq_true rfl, Nat.le_of_ble_eq_true rfl⟩) d_M_partSet_8 rfl rfl rfl rfl rfl (Nat.le_of_ble_eq_true rfl) ⟨Nat.le_of_ble_eq_true rfl, Nat.le_of_ble_eq_true rfl⟩ ?_
  refine z_ifb_eq (pc := 11) K (tgt := 31) d_M_partSet_11 (by decide) (fun c11 => ?_) (fun c11 => ?_)
  · refine z_lconst (pc := 31) K (v := 0) d_M_partSet_31 (by decide) ?_
    exact z_retl (pc := 32) ret d_M_partSet_32 (by simp [m_partSet, c11]) rfl
  · refine z_aload_n (pc := 14) K d_M_partSet_14 rfl ?_
    refine z_sipush (pc := 15) K (v := 600) d_M_partSet_15 (by decide) ?_
    refine z_bipush (pc := 18) K (v := 16) d_M_partSet_18 (by decide) ?_
    refine z_iload_n (pc := 20) K d_M_partSet_20 rfl ?_
    refine z_imul (pc := 21) K d_M_partSet_21 ?_
    refine z_iadd (pc := 22) K d_M_partSet_22 ?_
    refine z_iload_n (pc := 23) K d_M_partSet_23 rfl ?_
    refine z_iadd (pc := 24) K d_M_partSet_24 ?_
    refine z_eqi (slot_e hm c11) ?_
    refine z_cVl (pc := 25) K 0 (m_setOf_c _ (m_slot k i) (slot_lt hm c11) (hmn _) (hmV _)) (cwA K 1 k608 k610 ks24 k7 k611 q_M_setOf ⟨Nat.le_of_ble_eq_true rfl, Nat.le_of_ble_eq_true rfl⟩) d_M_partSet_25 rfl rfl rfl rfl rfl (Nat.le_of_ble_eq_true rfl) ⟨Nat.le_of_ble_eq_true rfl, Nat.le_of_ble_eq_true rfl⟩ ?_
    refine z_goto (pc := 28) K (tgt := 32) d_M_partSet_28 (by decide) ?_
    exact z_retl (pc := 32) ret d_M_partSet_32 (by simp [m_partSet, c11]) rfl
set_option maxRecDepth 100000 in
set_option maxHeartbeats 4000000 in
theorem m_about_c (v : MS) (x : Int32) (w : Int32) (hm : mOk v) : MI l D vwCl (CT cI cJ cC cZ) (MW a cI cJ cZ) y_M_about (wA y_M_about prog_8_method_22_code 3 (some .int)) { frames := 4, cells := 0, slots := 0, locals := 89 } [.ref (a 0), .int x, .int w] v (m_aboutP v x w) (v) := by
  refine MI.of (cc := prog_8_method_22_code) (nL := 3) (by decide) rfl (Nat.le_of_ble_eq_true rfl) ?_
  intro p e s m below meth c A Q K ret
  refine z_lvE (lv' := [(0, .ref (a 0)), (1, .int x), (2, .int w)]) rfl ?_
  obtain ⟨⟨hm1, hm2, hm3, hm4⟩, hmV, hmn, hmq, hmp⟩ := id hm
  refine z_aload_n (pc := 0) K d_M_about_0 rfl ?_
  refine z_iconst (pc := 1) K (v := 0) d_M_about_1 (by decide) ?_
  refine z_put (pc := 2) K (ref := "DemandTermsModel") (ws' := (MW a cI cJ cZ v)) d_M_about_2 hi_M ty_M ty_M_ok nm_M 0 rfl rfl 0 (by decide) k472 rfl rfl rfl rfl rfl (Nat.le_of_ble_eq_true rfl) rfl ?_
  refine z_aload_n (pc := 5) K d_M_about_5 rfl ?_
  refine z_iload_n (pc := 6) K d_M_about_6 rfl ?_
  refine z_cVi (pc := 7) K 0 (m_isTerm_c _ _ ) (cwA K 1 k568 k570 ks17 k7 k571 q_M_isTerm ⟨Nat.le_of_ble_eq_true rfl, Nat.le_of_ble_eq_true rfl⟩) d_M_about_7 rfl rfl rfl rfl rfl (Nat.le_of_ble_eq_true rfl) ⟨Nat.le_of_ble_eq_true rfl, Nat.le_of_ble_eq_true rfl⟩ ?_
  refine z_ifb_eq (pc := 10) K (tgt := 22) d_M_about_10 (by decide) (fun c10 => ?_) (fun c10 => ?_)
  · refine z_iconst (pc := 22) K (v := (-1)) d_M_about_22 (by decide) ?_
    exact z_reti (pc := 23) ret d_M_about_23 (by simp [m_aboutP, c10]) rfl
  · obtain ⟨ex, hx⟩ := hasIx_self (by omega) c10
    refine z_aload_n (pc := 13) K d_M_about_13 rfl ?_
    refine z_iload_n (pc := 14) K d_M_about_14 rfl ?_
    refine z_eqi ex ?_
    refine z_iload_n (pc := 15) K d_M_about_15 rfl ?_
    refine z_cVi (pc := 16) K 0 (m_aboutOf_c _ x.toNatClampNeg _ (by omega) (hmn _) (hmV _)) (cwA K 2 k592 k594 ks21 k7 k595 q_M_aboutOf ⟨Nat.le_of_ble_eq_true rfl, Nat.le_of_ble_eq_true rfl⟩) d_M_about_16 rfl rfl rfl rfl rfl (Nat.le_of_ble_eq_true rfl) ⟨Nat.le_of_ble_eq_true rfl, Nat.le_of_ble_eq_true rfl⟩ ?_
    refine z_goto (pc := 19) K (tgt := 23) d_M_about_19 (by decide) ?_
    exact z_reti (pc := 23) ret d_M_about_23 (by simp [m_aboutP, c10]) rfl
set_option maxRecDepth 100000 in
set_option maxHeartbeats 4000000 in
theorem m_set_c (v : MS) (x : Int32) (hm : mOk v) : ML l D vwCl (CT cI cJ cC cZ) (MW a cI cJ cZ) y_M_set (wA y_M_set prog_8_method_23_code 2 (some .long)) { frames := 4, cells := 0, slots := 0, locals := 89 } [.ref (a 0), .int x] v (m_setP v x) (v) := by
  refine ML.of (cc := prog_8_method_23_code) (nL := 2) (by decide) rfl (Nat.le_of_ble_eq_true rfl) ?_
  intro p e s m below meth c A Q K ret
  refine z_lvE (lv' := [(0, .ref (a 0)), (1, .int x)]) rfl ?_
  obtain ⟨⟨hm1, hm2, hm3, hm4⟩, hmV, hmn, hmq, hmp⟩ := id hm
  refine z_aload_n (pc := 0) K d_M_set_0 rfl ?_
  refine z_iconst (pc := 1) K (v := 0) d_M_set_1 (by decide) ?_
  refine z_put (pc := 2) K (ref := "DemandTermsModel") (ws' := (MW a cI cJ cZ v)) d_M_set_2 hi_M ty_M ty_M_ok nm_M 0 rfl rfl 0 (by decide) k472 rfl rfl rfl rfl rfl (Nat.le_of_ble_eq_true rfl) rfl ?_
  refine z_aload_n (pc := 5) K d_M_set_5 rfl ?_
  refine z_iload_n (pc := 6) K d_M_set_6 rfl ?_
  refine z_cVi (pc := 7) K 0 (m_isTerm_c _ _ ) (cwA K 1 k568 k570 ks17 k7 k571 q_M_isTerm ⟨Nat.le_of_ble_eq_true rfl, Nat.le_of_ble_eq_true rfl⟩) d_M_set_7 rfl rfl rfl rfl rfl (Nat.le_of_ble_eq_true rfl) ⟨Nat.le_of_ble_eq_true rfl, Nat.le_of_ble_eq_true rfl⟩ ?_
  refine z_ifb_eq (pc := 10) K (tgt := 21) d_M_set_10 (by decide) (fun c10 => ?_) (fun c10 => ?_)
  · refine z_lconst (pc := 21) K (v := 0) d_M_set_21 (by decide) ?_
    exact z_retl (pc := 22) ret d_M_set_22 (by simp [m_setP, c10]) rfl
  · obtain ⟨ex, hx⟩ := hasIx_self (by omega) c10
    refine z_aload_n (pc := 13) K d_M_set_13 rfl ?_
    refine z_iload_n (pc := 14) K d_M_set_14 rfl ?_
    refine z_eqi ex ?_
    refine z_cVl (pc := 15) K 0 (m_setOf_c _ x.toNatClampNeg (by omega) (hmn _) (hmV _)) (cwA K 1 k608 k610 ks24 k7 k611 q_M_setOf ⟨Nat.le_of_ble_eq_true rfl, Nat.le_of_ble_eq_true rfl⟩) d_M_set_15 rfl rfl rfl rfl rfl (Nat.le_of_ble_eq_true rfl) ⟨Nat.le_of_ble_eq_true rfl, Nat.le_of_ble_eq_true rfl⟩ ?_
    refine z_goto (pc := 18) K (tgt := 22) d_M_set_18 (by decide) ?_
    exact z_retl (pc := 22) ret d_M_set_22 (by simp [m_setP, c10]) rfl
set_option maxRecDepth 100000 in
set_option maxHeartbeats 4000000 in
theorem m_chosen_c (v : MS) (x : Int32) (w : Int32) (hm : mOk v) : MI l D vwCl (CT cI cJ cC cZ) (MW a cI cJ cZ) y_M_chosen (wA y_M_chosen prog_8_method_51_code 3 (some .int)) { frames := 4, cells := 0, slots := 0, locals := 89 } [.ref (a 0), .int x, .int w] v (m_chosen v x w) (v) := by
  refine MI.of (cc := prog_8_method_51_code) (nL := 3) (by decide) rfl (Nat.le_of_ble_eq_true rfl) ?_
  intro p e s m below meth c A Q K ret
  refine z_lvE (lv' := [(0, .ref (a 0)), (1, .int x), (2, .int w)]) rfl ?_
  obtain ⟨⟨hm1, hm2, hm3, hm4⟩, hmV, hmn, hmq, hmp⟩ := id hm
  refine z_aload_n (pc := 0) K d_M_chosen_0 rfl ?_
  refine z_iconst (pc := 1) K (v := 0) d_M_chosen_1 (by decide) ?_
  refine z_put (pc := 2) K (ref := "DemandTermsModel") (ws' := (MW a cI cJ cZ v)) d_M_chosen_2 hi_M ty_M ty_M_ok nm_M 0 rfl rfl 0 (by decide) k472 rfl rfl rfl rfl rfl (Nat.le_of_ble_eq_true rfl) rfl ?_
  refine z_aload_n (pc := 5) K d_M_chosen_5 rfl ?_
  refine z_iload_n (pc := 6) K d_M_chosen_6 rfl ?_
  refine z_cVi (pc := 7) K 0 (m_isName_c _ _ ) (cwA K 1 k556 k558 ks15 k7 k559 q_M_isName ⟨Nat.le_of_ble_eq_true rfl, Nat.le_of_ble_eq_true rfl⟩) d_M_chosen_7 rfl rfl rfl rfl rfl (Nat.le_of_ble_eq_true rfl) ⟨Nat.le_of_ble_eq_true rfl, Nat.le_of_ble_eq_true rfl⟩ ?_
  refine z_ifb_eq (pc := 10) K (tgt := 26) d_M_chosen_10 (by decide) (fun c10 => ?_) (fun c10 => ?_)
  · refine z_iconst (pc := 26) K (v := (-1)) d_M_chosen_26 (by decide) ?_
    exact z_reti (pc := 27) ret d_M_chosen_27 (by simp [m_chosen, c10]) rfl
  · obtain ⟨ex, hx⟩ := hasIx_self (by omega) c10
    refine z_aload_n (pc := 13) K d_M_chosen_13 rfl ?_
    refine z_sipush (pc := 14) K (v := 5400) d_M_chosen_14 (by decide) ?_
    refine z_iload_n (pc := 17) K d_M_chosen_17 rfl ?_
    refine z_eqi ex ?_
    refine z_iadd (pc := 18) K d_M_chosen_18 ?_
    refine z_eqi (ix5400 _) ?_
    refine z_iload_n (pc := 19) K d_M_chosen_19 rfl ?_
    refine z_cVi (pc := 20) K 0 (m_aboutOf_c _ (5400 + x.toNatClampNeg) _ (by omega) (hmn _) (hmV _)) (cwA K 2 k592 k594 ks21 k7 k595 q_M_aboutOf ⟨Nat.le_of_ble_eq_true rfl, Nat.le_of_ble_eq_true rfl⟩) d_M_chosen_20 rfl rfl rfl rfl rfl (Nat.le_of_ble_eq_true rfl) ⟨Nat.le_of_ble_eq_true rfl, Nat.le_of_ble_eq_true rfl⟩ ?_
    refine z_goto (pc := 23) K (tgt := 27) d_M_chosen_23 (by decide) ?_
    exact z_reti (pc := 27) ret d_M_chosen_27 (by simp [m_chosen, c10]) rfl
set_option maxRecDepth 100000 in
set_option maxHeartbeats 4000000 in
theorem m_chosenSet_c (v : MS) (x : Int32) (hm : mOk v) : ML l D vwCl (CT cI cJ cC cZ) (MW a cI cJ cZ) y_M_chosenSet (wA y_M_chosenSet prog_8_method_52_code 2 (some .long)) { frames := 4, cells := 0, slots := 0, locals := 89 } [.ref (a 0), .int x] v (m_chosenSet v x) (v) := by
  refine ML.of (cc := prog_8_method_52_code) (nL := 2) (by decide) rfl (Nat.le_of_ble_eq_true rfl) ?_
  intro p e s m below meth c A Q K ret
  refine z_lvE (lv' := [(0, .ref (a 0)), (1, .int x)]) rfl ?_
  obtain ⟨⟨hm1, hm2, hm3, hm4⟩, hmV, hmn, hmq, hmp⟩ := id hm
  refine z_aload_n (pc := 0) K d_M_chosenSet_0 rfl ?_
  refine z_iconst (pc := 1) K (v := 0) d_M_chosenSet_1 (by decide) ?_
  refine z_put (pc := 2) K (ref := "DemandTermsModel") (ws' := (MW a cI cJ cZ v)) d_M_chosenSet_2 hi_M ty_M ty_M_ok nm_M 0 rfl rfl 0 (by decide) k472 rfl rfl rfl rfl rfl (Nat.le_of_ble_eq_true rfl) rfl ?_
  refine z_aload_n (pc := 5) K d_M_chosenSet_5 rfl ?_
  refine z_iload_n (pc := 6) K d_M_chosenSet_6 rfl ?_
  refine z_cVi (pc := 7) K 0 (m_isName_c _ _ ) (cwA K 1 k556 k558 ks15 k7 k559 q_M_isName ⟨Nat.le_of_ble_eq_true rfl, Nat.le_of_ble_eq_true rfl⟩) d_M_chosenSet_7 rfl rfl rfl rfl rfl (Nat.le_of_ble_eq_true rfl) ⟨Nat.le_of_ble_eq_true rfl, Nat.le_of_ble_eq_true rfl⟩ ?_
  refine z_ifb_eq (pc := 10) K (tgt := 25) d_M_chosenSet_10 (by decide) (fun c10 => ?_) (fun c10 => ?_)
  · refine z_lconst (pc := 25) K (v := 0) d_M_chosenSet_25 (by decide) ?_
    exact z_retl (pc := 26) ret d_M_chosenSet_26 (by simp [m_chosenSet, c10]) rfl
  · obtain ⟨ex, hx⟩ := hasIx_self (by omega) c10
    refine z_aload_n (pc := 13) K d_M_chosenSet_13 rfl ?_
    refine z_sipush (pc := 14) K (v := 5400) d_M_chosenSet_14 (by decide) ?_
    refine z_iload_n (pc := 17) K d_M_chosenSet_17 rfl ?_
    refine z_eqi ex ?_
    refine z_iadd (pc := 18) K d_M_chosenSet_18 ?_
    refine z_eqi (ix5400 _) ?_
    refine z_cVl (pc := 19) K 0 (m_setOf_c _ (5400 + x.toNatClampNeg) (by omega) (hmn _) (hmV _)) (cwA K 1 k608 k610 ks24 k7 k611 q_M_setOf ⟨Nat.le_of_ble_eq_true rfl, Nat.le_of_ble_eq_true rfl⟩) d_M_chosenSet_19 rfl rfl rfl rfl rfl (Nat.le_of_ble_eq_true rfl) ⟨Nat.le_of_ble_eq_true rfl, Nat.le_of_ble_eq_true rfl⟩ ?_
    refine z_goto (pc := 22) K (tgt := 26) d_M_chosenSet_22 (by decide) ?_
    exact z_retl (pc := 26) ret d_M_chosenSet_26 (by simp [m_chosenSet, c10]) rfl
set_option maxRecDepth 100000 in
set_option maxHeartbeats 4000000 in
theorem m_state_c (v : MS) (k : Int32) (hm : mOk v) : MI l D vwCl (CT cI cJ cC cZ) (MW a cI cJ cZ) y_M_state (wA y_M_state prog_8_method_47_code 2 (some .int)) { frames := 5, cells := 0, slots := 0, locals := 114 } [.ref (a 0), .int k] v (m_state v k) (v) := by
  refine MI.of (cc := prog_8_method_47_code) (nL := 2) (by decide) rfl (Nat.le_of_ble_eq_true rfl) ?_
  intro p e s m below meth c A Q K ret
  refine z_lvE (lv' := [(0, .ref (a 0)), (1, .int k)]) rfl ?_
  obtain ⟨⟨hm1, hm2, hm3, hm4⟩, hmV, hmn, hmq, hmp⟩ := id hm
  refine z_aload_n (pc := 0) K d_M_state_0 rfl ?_
  refine z_iconst (pc := 1) K (v := 0) d_M_state_1 (by decide) ?_
  refine z_put (pc := 2) K (ref := "DemandTermsModel") (ws' := (MW a cI cJ cZ v)) d_M_state_2 hi_M ty_M ty_M_ok nm_M 0 rfl rfl 0 (by decide) k472 rfl rfl rfl rfl rfl (Nat.le_of_ble_eq_true rfl) rfl ?_
  refine z_aload_n (pc := 5) K d_M_state_5 rfl ?_
  refine z_iload_n (pc := 6) K d_M_state_6 rfl ?_
  refine z_cVi (pc := 7) K 0 (m_isBar_c _ _ ) (cwA K 1 k664 k666 ks34 k7 k667 q_M_isBar ⟨Nat.le_of_ble_eq_true rfl, Nat.le_of_ble_eq_true rfl⟩) d_M_state_7 rfl rfl rfl rfl rfl (Nat.le_of_ble_eq_true rfl) ⟨Nat.le_of_ble_eq_true rfl, Nat.le_of_ble_eq_true rfl⟩ ?_
  refine z_ifb_eq (pc := 10) K (tgt := 21) d_M_state_10 (by decide) (fun c10 => ?_) (fun c10 => ?_)
  · refine z_bipush (pc := 21) K (v := (-2)) d_M_state_21 (by decide) ?_
    exact z_reti (pc := 23) ret d_M_state_23 (by simp [m_state, c10]) rfl
  · obtain ⟨ex, hx⟩ := hasIx_self (by omega) c10
    refine z_aload_n (pc := 13) K d_M_state_13 rfl ?_
    refine z_iload_n (pc := 14) K d_M_state_14 rfl ?_
    refine z_eqi ex ?_
    refine z_cVi (pc := 15) K 0 (m_look_c _ k.toNatClampNeg hm (by omega)) (cwA K 1 k704 k706 ks37 k7 k707 q_M_look ⟨Nat.le_of_ble_eq_true rfl, Nat.le_of_ble_eq_true rfl⟩) d_M_state_15 rfl rfl rfl rfl rfl (Nat.le_of_ble_eq_true rfl) ⟨Nat.le_of_ble_eq_true rfl, Nat.le_of_ble_eq_true rfl⟩ ?_
    refine z_goto (pc := 18) K (tgt := 23) d_M_state_18 (by decide) ?_
    exact z_reti (pc := 23) ret d_M_state_23 (by simp [m_state, c10]) rfl
set_option maxRecDepth 100000 in
set_option maxHeartbeats 4000000 in
theorem m_forced_c (v : MS) (k : Int32) (hm : mOk v) : MI l D vwCl (CT cI cJ cC cZ) (MW a cI cJ cZ) y_M_forced (wA y_M_forced prog_8_method_48_code 2 (some .int)) { frames := 5, cells := 0, slots := 0, locals := 114 } [.ref (a 0), .int k] v (m_forced v k) (v) := by
  refine MI.of (cc := prog_8_method_48_code) (nL := 2) (by decide) rfl (Nat.le_of_ble_eq_true rfl) ?_
  intro p e s m below meth c A Q K ret
  refine z_lvE (lv' := [(0, .ref (a 0)), (1, .int k)]) rfl ?_
  obtain ⟨⟨hm1, hm2, hm3, hm4⟩, hmV, hmn, hmq, hmp⟩ := id hm
  refine z_aload_n (pc := 0) K d_M_forced_0 rfl ?_
  refine z_iconst (pc := 1) K (v := 0) d_M_forced_1 (by decide) ?_
  refine z_put (pc := 2) K (ref := "DemandTermsModel") (ws' := (MW a cI cJ cZ v)) d_M_forced_2 hi_M ty_M ty_M_ok nm_M 0 rfl rfl 0 (by decide) k472 rfl rfl rfl rfl rfl (Nat.le_of_ble_eq_true rfl) rfl ?_
  refine z_aload_n (pc := 5) K d_M_forced_5 rfl ?_
  refine z_iload_n (pc := 6) K d_M_forced_6 rfl ?_
  refine z_cVi (pc := 7) K 0 (m_isBar_c _ _ ) (cwA K 1 k664 k666 ks34 k7 k667 q_M_isBar ⟨Nat.le_of_ble_eq_true rfl, Nat.le_of_ble_eq_true rfl⟩) d_M_forced_7 rfl rfl rfl rfl rfl (Nat.le_of_ble_eq_true rfl) ⟨Nat.le_of_ble_eq_true rfl, Nat.le_of_ble_eq_true rfl⟩ ?_
  refine z_ifb_eq (pc := 10) K (tgt := 30) d_M_forced_10 (by decide) (fun c10 => ?_) (fun c10 => ?_)
  · refine z_iconst (pc := 30) K (v := (-1)) d_M_forced_30 (by decide) ?_
    exact z_reti (pc := 31) ret d_M_forced_31 (by simp [m_forced, c10]) rfl
  · obtain ⟨ex, hx⟩ := hasIx_self (by omega) c10
    refine z_aload_n (pc := 13) K d_M_forced_13 rfl ?_
    refine z_iload_n (pc := 14) K d_M_forced_14 rfl ?_
    refine z_eqi ex ?_
    refine z_cVi (pc := 15) K 0 (m_look_c _ k.toNatClampNeg hm (by omega)) (cwA K 1 k704 k706 ks37 k7 k707 q_M_look ⟨Nat.le_of_ble_eq_true rfl, Nat.le_of_ble_eq_true rfl⟩) d_M_forced_15 rfl rfl rfl rfl rfl (Nat.le_of_ble_eq_true rfl) ⟨Nat.le_of_ble_eq_true rfl, Nat.le_of_ble_eq_true rfl⟩ ?_
    refine z_iconst (pc := 18) K (v := 2) d_M_forced_18 (by decide) ?_
    refine z_icmp_ne (pc := 19) K (tgt := 30) d_M_forced_19 (by decide) (fun c19 => ?_) (fun c19 => ?_)
    · refine z_iconst (pc := 30) K (v := (-1)) d_M_forced_30 (by decide) ?_
      exact z_reti (pc := 31) ret d_M_forced_31 (by simp [m_forced, c10, c19]) rfl
    · refine z_aload_n (pc := 22) K d_M_forced_22 rfl ?_
      refine z_iload_n (pc := 23) K d_M_forced_23 rfl ?_
      refine z_eqi ex ?_
      refine z_cVi (pc := 24) K 0 (m_openPart_c _ k.toNatClampNeg hm (by omega)) (cwA K 1 k720 k722 ks40 k7 k723 q_M_openPart ⟨Nat.le_of_ble_eq_true rfl, Nat.le_of_ble_eq_true rfl⟩) d_M_forced_24 rfl rfl rfl rfl rfl (Nat.le_of_ble_eq_true rfl) ⟨Nat.le_of_ble_eq_true rfl, Nat.le_of_ble_eq_true rfl⟩ ?_
      refine z_goto (pc := 27) K (tgt := 31) d_M_forced_27 (by decide) ?_
      exact z_reti (pc := 31) ret d_M_forced_31 (by simp [m_forced, c10, c19]) rfl
set_option maxRecDepth 100000 in
set_option maxHeartbeats 4000000 in
theorem m_at_c (v : MS) (i : Int32) (hp : (mO v).1 ≤ 8000) : MI l D vwCl (CT cI cJ cC cZ) (MW a cI cJ cZ) y_M_at (wA y_M_at prog_8_method_57_code 2 (some .int)) { frames := 0, cells := 0, slots := 0, locals := 0 } [.ref (a 0), .int i] v (m_at v i) (v) := by
  refine MI.of (cc := prog_8_method_57_code) (nL := 2) (by decide) rfl (Nat.le_of_ble_eq_true rfl) ?_
  intro p e s m below meth c A Q K ret
  refine z_lvE (lv' := [(0, .ref (a 0)), (1, .int i)]) rfl ?_
  refine z_aload_n (pc := 0) K d_M_at_0 rfl ?_
  refine z_iconst (pc := 1) K (v := 0) d_M_at_1 (by decide) ?_
  refine z_put (pc := 2) K (ref := "DemandTermsModel") (ws' := (MW a cI cJ cZ v)) d_M_at_2 hi_M ty_M ty_M_ok nm_M 0 rfl rfl 0 (by decide) k472 rfl rfl rfl rfl rfl (Nat.le_of_ble_eq_true rfl) rfl ?_
  refine z_iload_n (pc := 5) K d_M_at_5 rfl ?_
  refine z_if_lt (pc := 6) K (tgt := 17) d_M_at_6 (by decide) (fun c6 => ?_) (fun c6 => ?_)
  · refine z_iconst (pc := 17) K (v := (-1)) d_M_at_17 (by decide) ?_
    refine z_goto (pc := 18) K (tgt := 27) d_M_at_18 (by decide) ?_
    exact z_reti (pc := 27) ret d_M_at_27 (by simp [m_at, c6]) rfl
  · refine z_iload_n (pc := 9) K d_M_at_9 rfl ?_
    refine z_aload_n (pc := 10) K d_M_at_10 rfl ?_
    refine z_get (pc := 11) K (ref := "DemandTermsModel") d_M_at_11 hi_M 0 rfl rfl 21 (by decide) k493 rfl rfl ?_
    refine z_icmp_lt (pc := 14) K (tgt := 21) d_M_at_14 (by decide) (fun c14 => ?_) (fun c14 => ?_)
    · refine z_aload_n (pc := 21) K d_M_at_21 rfl ?_
      refine z_get (pc := 22) K (ref := "DemandTermsModel") d_M_at_22 hi_M 0 rfl rfl 20 (by decide) k492 rfl rfl ?_
      refine z_iload_n (pc := 25) K d_M_at_25 rfl ?_
      refine z_iald (pc := 26) K d_M_at_26 16 0 rfl rfl (m_atIn c6 c14 hp) ?_
      exact z_reti (pc := 27) ret d_M_at_27 (by simp [m_at, c6, c14]) rfl
    · refine z_iconst (pc := 17) K (v := (-1)) d_M_at_17 (by decide) ?_
      refine z_goto (pc := 18) K (tgt := 27) d_M_at_18 (by decide) ?_
      exact z_reti (pc := 27) ret d_M_at_27 (by simp [m_at, c6, c14]) rfl
set_option maxRecDepth 100000 in
set_option maxHeartbeats 4000000 in
theorem m_versions_c (v : MS) (x : Int32) (hm : mOk v) : MI l D vwCl (CT cI cJ cC cZ) (MW a cI cJ cZ) y_M_versions (wA y_M_versions prog_8_method_6_code 2 (some .int)) { frames := 2, cells := 0, slots := 0, locals := 45 } [.ref (a 0), .int x] v ((m_ver v x).1) ((m_ver v x).2) := by
  refine MI.of (cc := prog_8_method_6_code) (nL := 2) (by decide) rfl (Nat.le_of_ble_eq_true rfl) ?_
  intro p e s m below meth c A Q K ret
  refine z_lvE (lv' := [(0, .ref (a 0)), (1, .int x)]) rfl ?_
  obtain ⟨⟨hm1, hm2, hm3, hm4⟩, hmV, hmn, hmq, hmp⟩ := id hm
  refine z_aload_n (pc := 0) K d_M_versions_0 rfl ?_
  refine z_iconst (pc := 1) K (v := 0) d_M_versions_1 (by decide) ?_
  refine z_put (pc := 2) K (ref := "DemandTermsModel") (ws' := (MW a cI cJ cZ v)) d_M_versions_2 hi_M ty_M ty_M_ok nm_M 0 rfl rfl 0 (by decide) k472 rfl rfl rfl rfl rfl (Nat.le_of_ble_eq_true rfl) rfl ?_
  refine z_aload_n (pc := 5) K d_M_versions_5 rfl ?_
  refine z_get (pc := 6) K (ref := "DemandTermsModel") d_M_versions_6 hi_M 0 rfl rfl 2 (by decide) k474 rfl rfl ?_
  refine z_bipush (pc := 9) K (v := 16) d_M_versions_9 (by decide) ?_
  refine z_icmp_eq (pc := 11) K (tgt := 24) d_M_versions_11 (by decide) (fun c11 => ?_) (fun c11 => ?_)
  · refine z_iconst (pc := 24) K (v := (-1)) d_M_versions_24 (by decide) ?_
    exact z_reti (pc := 25) ret d_M_versions_25 (by simp [m_ver, m_verOk, c11]) (by simp [m_ver, m_verOk, c11])
  · refine z_iload_n (pc := 14) K d_M_versions_14 rfl ?_
    refine z_if_lt (pc := 15) K (tgt := 24) d_M_versions_15 (by decide) (fun c15 => ?_) (fun c15 => ?_)
    · refine z_iconst (pc := 24) K (v := (-1)) d_M_versions_24 (by decide) ?_
      exact z_reti (pc := 25) ret d_M_versions_25 (by simp [m_ver, m_verOk, c11, c15]) (by simp [m_ver, m_verOk, c11, c15])
    · refine z_iload_n (pc := 18) K d_M_versions_18 rfl ?_
      refine z_bipush (pc := 19) K (v := 48) d_M_versions_19 (by decide) ?_
      refine z_icmp_le (pc := 21) K (tgt := 26) d_M_versions_21 (by decide) (fun c21 => ?_) (fun c21 => ?_)
      · have hlt : mN v < 16 := Nat.lt_of_le_of_ne hm1 (fun q => c11 (by rw [q] <;> rfl))
        have hok : m_verOk v x = true := by simp [m_verOk, c11, c15, c21]
        have hx48 : x.toNatClampNeg ≤ 48 := le48 c15 c21
        refine z_aload_n (pc := 26) K d_M_versions_26 rfl ?_
        refine z_get (pc := 27) K (ref := "DemandTermsModel") d_M_versions_27 hi_M 0 rfl rfl 1 (by decide) k473 rfl rfl ?_
        refine z_aload_n (pc := 30) K d_M_versions_30 rfl ?_
        refine z_get (pc := 31) K (ref := "DemandTermsModel") d_M_versions_31 hi_M 0 rfl rfl 2 (by decide) k474 rfl rfl ?_
        refine z_iload_n (pc := 34) K d_M_versions_34 rfl ?_
        refine z_eqi (nI_self c15) ?_
        refine z_iast (pc := 35) K (ws' := (MW a cI cJ cZ (sV v (updN (mV v) (mN v) x.toNatClampNeg)))) d_M_versions_35 1 0 rfl rfl (vp_in_nI hlt (by decide)) (by rw [nI_clamp (show (mN v) < 2 ^ 31 by omega), w_nI]; rfl) ?_
        refine z_aload_n (pc := 36) K d_M_versions_36 rfl ?_
        refine z_get (pc := 37) K (ref := "DemandTermsModel") d_M_versions_37 hi_M 0 rfl rfl 6 (by decide) k478 rfl rfl ?_
        refine z_sipush (pc := 40) K (v := 5400) d_M_versions_40 (by decide) ?_
        refine z_aload_n (pc := 43) K d_M_versions_43 rfl ?_
        refine z_get (pc := 44) K (ref := "DemandTermsModel") d_M_versions_44 hi_M 0 rfl rfl 2 (by decide) k474 rfl rfl ?_
        refine z_iadd (pc := 47) K d_M_versions_47 ?_
        refine z_aload_n (pc := 48) K d_M_versions_48 rfl ?_
        refine z_get (pc := 49) K (ref := "DemandTermsModel") d_M_versions_49 hi_M 0 rfl rfl 2 (by decide) k474 rfl rfl ?_
        refine z_iast (pc := 52) K (ws' := (MW a cI cJ cZ (sL (sV v (updN (mV v) (mN v) x.toNatClampNeg)) (updN (mL v).1 (5400 + mN v) (mN v), (mL v).2)))) d_M_versions_52 2 0 rfl rfl (show vp_in (5400 + nI (mN v)) 5420 by rw [ix5400]; exact vp_in_nI (by omega) (by decide)) (by rw [show (5400 + nI (mN (sV v (updN (mV v) (mN v) x.toNatClampNeg)))).toNatClampNeg = 5400 + mN v by rw [ix5400]; exact nI_clamp (show (5400 + mN v) < 2 ^ 31 by omega), w_nI]; rfl) ?_
        refine z_aload_n (pc := 53) K d_M_versions_53 rfl ?_
        refine z_dup (pc := 54) K d_M_versions_54 rfl ?_
        refine z_get (pc := 55) K (ref := "DemandTermsModel") d_M_versions_55 hi_M 0 rfl rfl 2 (by decide) k474 rfl rfl ?_
        refine z_iconst (pc := 58) K (v := 1) d_M_versions_58 (by decide) ?_
        refine z_iadd (pc := 59) K d_M_versions_59 ?_
        refine z_eqi (nI_1 _) ?_
        refine z_put (pc := 60) K (ref := "DemandTermsModel") (ws' := (MW a cI cJ cZ (m_verV v x.toNatClampNeg))) d_M_versions_60 hi_M ty_M ty_M_ok nm_M 0 rfl rfl 2 (by decide) k474 rfl rfl rfl rfl rfl (Nat.le_of_ble_eq_true rfl) rfl ?_
        refine z_aload_n (pc := 63) K d_M_versions_63 rfl ?_
        refine z_sipush (pc := 64) K (v := 5400) d_M_versions_64 (by decide) ?_
        refine z_aload_n (pc := 67) K d_M_versions_67 rfl ?_
        refine z_get (pc := 68) K (ref := "DemandTermsModel") d_M_versions_68 hi_M 0 rfl rfl 2 (by decide) k474 rfl rfl ?_
        refine z_iadd (pc := 71) K d_M_versions_71 ?_
        refine z_iconst (pc := 72) K (v := 1) d_M_versions_72 (by decide) ?_
        refine z_isub (pc := 73) K d_M_versions_73 ?_
        refine z_eqi (ix5400m _) ?_
        refine z_cVv (pc := 74) K 0 (m_full_c (m_verV v x.toNatClampNeg) (5400 + mN v) (by omega) (by show updN (mL v).1 (5400 + mN v) (mN v) (5400 + mN v) < 16; rw [updN_s]; exact hlt) (updN_le hmV hx48 _)) (cwA K 1 k544 k546 ks13 k7 k547 q_M_full ⟨Nat.le_of_ble_eq_true rfl, Nat.le_of_ble_eq_true rfl⟩) d_M_versions_74 rfl rfl rfl rfl rfl (Nat.le_of_ble_eq_true rfl) ⟨Nat.le_of_ble_eq_true rfl, Nat.le_of_ble_eq_true rfl⟩ ?_
        refine z_aload_n (pc := 77) K d_M_versions_77 rfl ?_
        refine z_get (pc := 78) K (ref := "DemandTermsModel") d_M_versions_78 hi_M 0 rfl rfl 2 (by decide) k474 rfl rfl ?_
        refine z_iconst (pc := 81) K (v := 1) d_M_versions_81 (by decide) ?_
        refine z_isub (pc := 82) K d_M_versions_82 ?_
        exact z_reti (pc := 83) ret d_M_versions_83 (by rw [m_ver, if_pos hok] <;> exact nI_pred _) (by rw [m_ver, if_pos hok] <;> rfl)
      · refine z_iconst (pc := 24) K (v := (-1)) d_M_versions_24 (by decide) ?_
        exact z_reti (pc := 25) ret d_M_versions_25 (by simp [m_ver, m_verOk, c11, c15, c21]) (by simp [m_ver, m_verOk, c11, c15, c21])
set_option maxRecDepth 100000 in
set_option maxHeartbeats 4000000 in
theorem m_term_c (v : MS) (x : Int32) (set : Int64) (w : Bool) (hm : mOk v) : MI l D vwCl (CT cI cJ cC cZ) (MW a cI cJ cZ) y_M_term (wA y_M_term prog_8_method_18_code 5 (some .int)) { frames := 2, cells := 0, slots := 0, locals := 49 } [.ref (a 0), .int x, .long set, .int (bI w)] v ((m_term v x set w).1) ((m_term v x set w).2) := by
  refine MI.of (cc := prog_8_method_18_code) (nL := 5) (by decide) rfl (Nat.le_of_ble_eq_true rfl) ?_
  intro p e s m below meth c A Q K ret
  refine z_lvE (lv' := [(0, .ref (a 0)), (1, .int x), (2, .long set), (4, .int (bI w))]) rfl ?_
  obtain ⟨⟨hm1, hm2, hm3, hm4⟩, hmV, hmn, hmq, hmp⟩ := id hm
  refine z_aload_n (pc := 0) K d_M_term_0 rfl ?_
  refine z_iconst (pc := 1) K (v := 0) d_M_term_1 (by decide) ?_
  refine z_put (pc := 2) K (ref := "DemandTermsModel") (ws' := (MW a cI cJ cZ v)) d_M_term_2 hi_M ty_M ty_M_ok nm_M 0 rfl rfl 0 (by decide) k472 rfl rfl rfl rfl rfl (Nat.le_of_ble_eq_true rfl) rfl ?_
  refine z_aload_n (pc := 5) K d_M_term_5 rfl ?_
  refine z_iload_n (pc := 6) K d_M_term_6 rfl ?_
  refine z_cVi (pc := 7) K 0 (m_isName_c _ _ ) (cwA K 1 k556 k558 ks15 k7 k559 q_M_isName ⟨Nat.le_of_ble_eq_true rfl, Nat.le_of_ble_eq_true rfl⟩) d_M_term_7 rfl rfl rfl rfl rfl (Nat.le_of_ble_eq_true rfl) ⟨Nat.le_of_ble_eq_true rfl, Nat.le_of_ble_eq_true rfl⟩ ?_
  refine z_ifb_eq (pc := 10) K (tgt := 23) d_M_term_10 (by decide) (fun c10 => ?_) (fun c10 => ?_)
  · refine z_iconst (pc := 23) K (v := (-1)) d_M_term_23 (by decide) ?_
    exact z_reti (pc := 24) ret d_M_term_24 (by simp [m_term, c10]) (by simp [m_term, c10])
  · refine z_aload_n (pc := 13) K d_M_term_13 rfl ?_
    refine z_get (pc := 14) K (ref := "DemandTermsModel") d_M_term_14 hi_M 0 rfl rfl 3 (by decide) k475 rfl rfl ?_
    refine z_sipush (pc := 17) K (v := 600) d_M_term_17 (by decide) ?_
    refine z_icmp_ne (pc := 20) K (tgt := 25) d_M_term_20 (by decide) (fun c20 => ?_) (fun c20 => ?_)
    · obtain ⟨ex, hx⟩ := hasIx_self (by omega) c10
      refine z_aload_n (pc := 25) K d_M_term_25 rfl ?_
      refine z_aload_n (pc := 26) K d_M_term_26 rfl ?_
      refine z_get (pc := 27) K (ref := "DemandTermsModel") d_M_term_27 hi_M 0 rfl rfl 3 (by decide) k475 rfl rfl ?_
      refine z_iload_n (pc := 30) K d_M_term_30 rfl ?_
      refine z_eqi ex ?_
      refine z_lload_n (pc := 31) K d_M_term_31 rfl ?_
      refine z_iload (pc := 32) K d_M_term_32 rfl ?_
      refine z_cVv (pc := 34) K 0 (m_make_c v (mT v) x.toNatClampNeg _ _ (by omega) (by omega) (hmV _)) (cwA K 4 k560 k562 ks16 k7 k563 q_M_make ⟨Nat.le_of_ble_eq_true rfl, Nat.le_of_ble_eq_true rfl⟩) d_M_term_34 rfl rfl rfl rfl rfl (Nat.le_of_ble_eq_true rfl) ⟨Nat.le_of_ble_eq_true rfl, Nat.le_of_ble_eq_true rfl⟩ ?_
      refine z_aload_n (pc := 37) K d_M_term_37 rfl ?_
      refine z_dup (pc := 38) K d_M_term_38 rfl ?_
      refine z_get (pc := 39) K (ref := "DemandTermsModel") d_M_term_39 hi_M 0 rfl rfl 3 (by decide) k475 rfl rfl ?_
      refine z_iconst (pc := 42) K (v := 1) d_M_term_42 (by decide) ?_
      refine z_iadd (pc := 43) K d_M_term_43 ?_
      refine z_eqi (nI_1 _) ?_
      refine z_put (pc := 44) K (ref := "DemandTermsModel") (ws' := (MW a cI cJ cZ (addT (sL v (m_make (mV v) (mL v) (mT v) x.toNatClampNeg set w))))) d_M_term_44 hi_M ty_M ty_M_ok nm_M 0 rfl rfl 3 (by decide) k475 rfl rfl rfl rfl rfl (Nat.le_of_ble_eq_true rfl) rfl ?_
      refine z_aload_n (pc := 47) K d_M_term_47 rfl ?_
      refine z_get (pc := 48) K (ref := "DemandTermsModel") d_M_term_48 hi_M 0 rfl rfl 3 (by decide) k475 rfl rfl ?_
      refine z_iconst (pc := 51) K (v := 1) d_M_term_51 (by decide) ?_
      refine z_isub (pc := 52) K d_M_term_52 ?_
      exact z_reti (pc := 53) ret d_M_term_53 (by rw [m_term, if_pos c10, if_neg c20] <;> exact nI_pred _) (by rw [m_term, if_pos c10, if_neg c20] <;> rfl)
    · refine z_iconst (pc := 23) K (v := (-1)) d_M_term_23 (by decide) ?_
      exact z_reti (pc := 24) ret d_M_term_24 (by simp [m_term, c10, c20]) (by simp [m_term, c10, c20])
set_option maxRecDepth 100000 in
set_option maxHeartbeats 4000000 in
theorem m_both_c (v : MS) (x : Int32) (y : Int32) (w : Bool) (hm : mOk v) : MI l D vwCl (CT cI cJ cC cZ) (MW a cI cJ cZ) y_M_both (wA y_M_both prog_8_method_19_code 4 (some .int)) { frames := 2, cells := 0, slots := 0, locals := 48 } [.ref (a 0), .int x, .int y, .int (bI w)] v ((m_both v x y w).1) ((m_both v x y w).2) := by
  refine MI.of (cc := prog_8_method_19_code) (nL := 4) (by decide) rfl (Nat.le_of_ble_eq_true rfl) ?_
  intro p e s m below meth c A Q K ret
  refine z_lvE (lv' := [(0, .ref (a 0)), (1, .int x), (2, .int y), (3, .int (bI w))]) rfl ?_
  obtain ⟨⟨hm1, hm2, hm3, hm4⟩, hmV, hmn, hmq, hmp⟩ := id hm
  refine z_aload_n (pc := 0) K d_M_both_0 rfl ?_
  refine z_iconst (pc := 1) K (v := 0) d_M_both_1 (by decide) ?_
  refine z_put (pc := 2) K (ref := "DemandTermsModel") (ws' := (MW a cI cJ cZ v)) d_M_both_2 hi_M ty_M ty_M_ok nm_M 0 rfl rfl 0 (by decide) k472 rfl rfl rfl rfl rfl (Nat.le_of_ble_eq_true rfl) rfl ?_
  refine z_aload_n (pc := 5) K d_M_both_5 rfl ?_
  refine z_iload_n (pc := 6) K d_M_both_6 rfl ?_
  refine z_cVi (pc := 7) K 0 (m_isTerm_c _ _ ) (cwA K 1 k568 k570 ks17 k7 k571 q_M_isTerm ⟨Nat.le_of_ble_eq_true rfl, Nat.le_of_ble_eq_true rfl⟩) d_M_both_7 rfl rfl rfl rfl rfl (Nat.le_of_ble_eq_true rfl) ⟨Nat.le_of_ble_eq_true rfl, Nat.le_of_ble_eq_true rfl⟩ ?_
  refine z_ifb_eq (pc := 10) K (tgt := 46) d_M_both_10 (by decide) (fun c10 => ?_) (fun c10 => ?_)
  · refine z_iconst (pc := 46) K (v := (-1)) d_M_both_46 (by decide) ?_
    exact z_reti (pc := 47) ret d_M_both_47 (by simp [m_both, m_bothOk, c10]) (by simp [m_both, m_bothOk, c10])
  · refine z_aload_n (pc := 13) K d_M_both_13 rfl ?_
    refine z_iload_n (pc := 14) K d_M_both_14 rfl ?_
    refine z_cVi (pc := 15) K 0 (m_isTerm_c _ _ ) (cwA K 1 k568 k570 ks17 k7 k571 q_M_isTerm ⟨Nat.le_of_ble_eq_true rfl, Nat.le_of_ble_eq_true rfl⟩) d_M_both_15 rfl rfl rfl rfl rfl (Nat.le_of_ble_eq_true rfl) ⟨Nat.le_of_ble_eq_true rfl, Nat.le_of_ble_eq_true rfl⟩ ?_
    refine z_ifb_eq (pc := 18) K (tgt := 46) d_M_both_18 (by decide) (fun c18 => ?_) (fun c18 => ?_)
    · refine z_iconst (pc := 46) K (v := (-1)) d_M_both_46 (by decide) ?_
      exact z_reti (pc := 47) ret d_M_both_47 (by simp [m_both, m_bothOk, c10, c18]) (by simp [m_both, m_bothOk, c10, c18])
    · refine z_aload_n (pc := 21) K d_M_both_21 rfl ?_
      refine z_get (pc := 22) K (ref := "DemandTermsModel") d_M_both_22 hi_M 0 rfl rfl 6 (by decide) k478 rfl rfl ?_
      refine z_iload_n (pc := 25) K d_M_both_25 rfl ?_
      refine z_iald (pc := 26) K d_M_both_26 2 0 rfl rfl (hasIx_in c10 (show mT v ≤ 5420 by omega) (by decide)) ?_
      refine z_aload_n (pc := 27) K d_M_both_27 rfl ?_
      refine z_get (pc := 28) K (ref := "DemandTermsModel") d_M_both_28 hi_M 0 rfl rfl 6 (by decide) k478 rfl rfl ?_
      refine z_iload_n (pc := 31) K d_M_both_31 rfl ?_
      refine z_iald (pc := 32) K d_M_both_32 2 0 rfl rfl (hasIx_in c18 (show mT v ≤ 5420 by omega) (by decide)) ?_
      refine z_icmp_ne (pc := 33) K (tgt := 46) d_M_both_33 (by decide) (fun c33 => ?_) (fun c33 => ?_)
      · refine z_iconst (pc := 46) K (v := (-1)) d_M_both_46 (by decide) ?_
        exact z_reti (pc := 47) ret d_M_both_47 (by simp [m_both, m_bothOk, c10, c18, c33]) (by simp [m_both, m_bothOk, c10, c18, c33])
      · refine z_aload_n (pc := 36) K d_M_both_36 rfl ?_
        refine z_get (pc := 37) K (ref := "DemandTermsModel") d_M_both_37 hi_M 0 rfl rfl 3 (by decide) k475 rfl rfl ?_
        refine z_sipush (pc := 40) K (v := 600) d_M_both_40 (by decide) ?_
        refine z_icmp_ne (pc := 43) K (tgt := 48) d_M_both_43 (by decide) (fun c43 => ?_) (fun c43 => ?_)
        · have hok : m_bothOk v x y = true := by simp [m_bothOk, c10, c18, c33, c43]
          obtain ⟨ex, hx⟩ := hasIx_self (by omega) c10
          obtain ⟨ey, hy⟩ := hasIx_self (by omega) c18
          refine z_aload_n (pc := 48) K d_M_both_48 rfl ?_
          refine z_aload_n (pc := 49) K d_M_both_49 rfl ?_
          refine z_get (pc := 50) K (ref := "DemandTermsModel") d_M_both_50 hi_M 0 rfl rfl 3 (by decide) k475 rfl rfl ?_
          refine z_iload_n (pc := 53) K d_M_both_53 rfl ?_
          refine z_eqi ex ?_
          refine z_iload_n (pc := 54) K d_M_both_54 rfl ?_
          refine z_eqi ey ?_
          refine z_iload_n (pc := 55) K d_M_both_55 rfl ?_
          refine z_cVv (pc := 56) K 0 (m_join_c v (mT v) x.toNatClampNeg y.toNatClampNeg _ (by omega) (by omega) (by omega)) (cwA K 4 k572 k574 ks18 k7 k575 q_M_join ⟨Nat.le_of_ble_eq_true rfl, Nat.le_of_ble_eq_true rfl⟩) d_M_both_56 rfl rfl rfl rfl rfl (Nat.le_of_ble_eq_true rfl) ⟨Nat.le_of_ble_eq_true rfl, Nat.le_of_ble_eq_true rfl⟩ ?_
          refine z_aload_n (pc := 59) K d_M_both_59 rfl ?_
          refine z_dup (pc := 60) K d_M_both_60 rfl ?_
          refine z_get (pc := 61) K (ref := "DemandTermsModel") d_M_both_61 hi_M 0 rfl rfl 3 (by decide) k475 rfl rfl ?_
          refine z_iconst (pc := 64) K (v := 1) d_M_both_64 (by decide) ?_
          refine z_iadd (pc := 65) K d_M_both_65 ?_
          refine z_eqi (nI_1 _) ?_
          refine z_put (pc := 66) K (ref := "DemandTermsModel") (ws' := (MW a cI cJ cZ (addT (sL v (m_join (mL v) (mT v) x.toNatClampNeg y.toNatClampNeg w))))) d_M_both_66 hi_M ty_M ty_M_ok nm_M 0 rfl rfl 3 (by decide) k475 rfl rfl rfl rfl rfl (Nat.le_of_ble_eq_true rfl) rfl ?_
          refine z_aload_n (pc := 69) K d_M_both_69 rfl ?_
          refine z_get (pc := 70) K (ref := "DemandTermsModel") d_M_both_70 hi_M 0 rfl rfl 3 (by decide) k475 rfl rfl ?_
          refine z_iconst (pc := 73) K (v := 1) d_M_both_73 (by decide) ?_
          refine z_isub (pc := 74) K d_M_both_74 ?_
          exact z_reti (pc := 75) ret d_M_both_75 (by rw [m_both, if_pos hok] <;> exact nI_pred _) (by rw [m_both, if_pos hok] <;> rfl)
        · refine z_iconst (pc := 46) K (v := (-1)) d_M_both_46 (by decide) ?_
          exact z_reti (pc := 47) ret d_M_both_47 (by simp [m_both, m_bothOk, c10, c18, c33, c43]) (by simp [m_both, m_bothOk, c10, c18, c33, c43])
set_option maxRecDepth 100000 in
set_option maxHeartbeats 4000000 in
theorem m_relate_c (v : MS) (x : Int32) (y : Int32) (hm : mOk v) : MI l D vwCl (CT cI cJ cC cZ) (MW a cI cJ cZ) y_M_relate (wA y_M_relate prog_8_method_21_code 3 (some .int)) { frames := 2, cells := 0, slots := 0, locals := 47 } [.ref (a 0), .int x, .int y] v (m_relate v x y) (v) := by
  refine MI.of (cc := prog_8_method_21_code) (nL := 3) (by decide) rfl (Nat.le_of_ble_eq_true rfl) ?_
  intro p e s m below meth c A Q K ret
  refine z_lvE (lv' := [(0, .ref (a 0)), (1, .int x), (2, .int y)]) rfl ?_
  obtain ⟨⟨hm1, hm2, hm3, hm4⟩, hmV, hmn, hmq, hmp⟩ := id hm
  refine z_aload_n (pc := 0) K d_M_relate_0 rfl ?_
  refine z_iconst (pc := 1) K (v := 0) d_M_relate_1 (by decide) ?_
  refine z_put (pc := 2) K (ref := "DemandTermsModel") (ws' := (MW a cI cJ cZ v)) d_M_relate_2 hi_M ty_M ty_M_ok nm_M 0 rfl rfl 0 (by decide) k472 rfl rfl rfl rfl rfl (Nat.le_of_ble_eq_true rfl) rfl ?_
  refine z_aload_n (pc := 5) K d_M_relate_5 rfl ?_
  refine z_iload_n (pc := 6) K d_M_relate_6 rfl ?_
  refine z_cVi (pc := 7) K 0 (m_isTerm_c _ _ ) (cwA K 1 k568 k570 ks17 k7 k571 q_M_isTerm ⟨Nat.le_of_ble_eq_true rfl, Nat.le_of_ble_eq_true rfl⟩) d_M_relate_7 rfl rfl rfl rfl rfl (Nat.le_of_ble_eq_true rfl) ⟨Nat.le_of_ble_eq_true rfl, Nat.le_of_ble_eq_true rfl⟩ ?_
  refine z_ifb_eq (pc := 10) K (tgt := 21) d_M_relate_10 (by decide) (fun c10 => ?_) (fun c10 => ?_)
  · refine z_bipush (pc := 21) K (v := (-2)) d_M_relate_21 (by decide) ?_
    exact z_reti (pc := 23) ret d_M_relate_23 (by simp [m_relate, c10]) rfl
  · refine z_aload_n (pc := 13) K d_M_relate_13 rfl ?_
    refine z_iload_n (pc := 14) K d_M_relate_14 rfl ?_
    refine z_cVi (pc := 15) K 0 (m_isTerm_c _ _ ) (cwA K 1 k568 k570 ks17 k7 k571 q_M_isTerm ⟨Nat.le_of_ble_eq_true rfl, Nat.le_of_ble_eq_true rfl⟩) d_M_relate_15 rfl rfl rfl rfl rfl (Nat.le_of_ble_eq_true rfl) ⟨Nat.le_of_ble_eq_true rfl, Nat.le_of_ble_eq_true rfl⟩ ?_
    refine z_ifb_ne (pc := 18) K (tgt := 24) d_M_relate_18 (by decide) (fun c18 => ?_) (fun c18 => ?_)
    · obtain ⟨ex, hx⟩ := hasIx_self (by omega) c10
      obtain ⟨ey, hy⟩ := hasIx_self (by omega) c18
      refine z_aload_n (pc := 24) K d_M_relate_24 rfl ?_
      refine z_iload_n (pc := 25) K d_M_relate_25 rfl ?_
      refine z_eqi ex ?_
      refine z_iload_n (pc := 26) K d_M_relate_26 rfl ?_
      refine z_eqi ex ?_
      refine z_cVi (pc := 27) K 0 (m_relation_c _ x.toNatClampNeg x.toNatClampNeg (by omega) (by omega)) (cwA K 2 k584 k586 ks20 k7 k587 q_M_relation ⟨Nat.le_of_ble_eq_true rfl, Nat.le_of_ble_eq_true rfl⟩) d_M_relate_27 rfl rfl rfl rfl rfl (Nat.le_of_ble_eq_true rfl) ⟨Nat.le_of_ble_eq_true rfl, Nat.le_of_ble_eq_true rfl⟩ ?_
      refine z_iconst (pc := 30) K (v := (-1)) d_M_relate_30 (by decide) ?_
      refine z_icmp_ne (pc := 31) K (tgt := 36) d_M_relate_31 (by decide) (fun c31 => ?_) (fun c31 => ?_)
      · refine z_aload_n (pc := 36) K d_M_relate_36 rfl ?_
        refine z_get (pc := 37) K (ref := "DemandTermsModel") d_M_relate_37 hi_M 0 rfl rfl 6 (by decide) k478 rfl rfl ?_
        refine z_iload_n (pc := 40) K d_M_relate_40 rfl ?_
        refine z_iald (pc := 41) K d_M_relate_41 2 0 rfl rfl (hasIx_in c10 (show mT v ≤ 5420 by omega) (by decide)) ?_
        refine z_aload_n (pc := 42) K d_M_relate_42 rfl ?_
        refine z_get (pc := 43) K (ref := "DemandTermsModel") d_M_relate_43 hi_M 0 rfl rfl 6 (by decide) k478 rfl rfl ?_
        refine z_iload_n (pc := 46) K d_M_relate_46 rfl ?_
        refine z_iald (pc := 47) K d_M_relate_47 2 0 rfl rfl (hasIx_in c18 (show mT v ≤ 5420 by omega) (by decide)) ?_
        refine z_icmp_ne (pc := 48) K (tgt := 60) d_M_relate_48 (by decide) (fun c48 => ?_) (fun c48 => ?_)
        · refine z_iconst (pc := 60) K (v := 0) d_M_relate_60 (by decide) ?_
          exact z_reti (pc := 61) ret d_M_relate_61 (by simp [m_relate, c10, c18, c31, c48]) rfl
        · refine z_aload_n (pc := 51) K d_M_relate_51 rfl ?_
          refine z_iload_n (pc := 52) K d_M_relate_52 rfl ?_
          refine z_eqi ex ?_
          refine z_iload_n (pc := 53) K d_M_relate_53 rfl ?_
          refine z_eqi ey ?_
          refine z_cVi (pc := 54) K 0 (m_relation_c _ x.toNatClampNeg y.toNatClampNeg (by omega) (by omega)) (cwA K 2 k584 k586 ks20 k7 k587 q_M_relation ⟨Nat.le_of_ble_eq_true rfl, Nat.le_of_ble_eq_true rfl⟩) d_M_relate_54 rfl rfl rfl rfl rfl (Nat.le_of_ble_eq_true rfl) ⟨Nat.le_of_ble_eq_true rfl, Nat.le_of_ble_eq_true rfl⟩ ?_
          refine z_goto (pc := 57) K (tgt := 61) d_M_relate_57 (by decide) ?_
          exact z_reti (pc := 61) ret d_M_relate_61 (by simp [m_relate, c10, c18, c31, c48]) rfl
      · refine z_iconst (pc := 34) K (v := (-1)) d_M_relate_34 (by decide) ?_
        exact z_reti (pc := 35) ret d_M_relate_35 (by simp [m_relate, c10, c18, c31]) rfl
    · refine z_bipush (pc := 21) K (v := (-2)) d_M_relate_21 (by decide) ?_
      exact z_reti (pc := 23) ret d_M_relate_23 (by simp [m_relate, c10, c18]) rfl
set_option maxRecDepth 100000 in
set_option maxHeartbeats 4000000 in
theorem m_choose_c (v : MS) (x : Int32) (hm : mOk v) : MI l D vwCl (CT cI cJ cC cZ) (MW a cI cJ cZ) y_M_choose (wA y_M_choose prog_8_method_41_code 2 (some .boolean)) { frames := 2, cells := 0, slots := 0, locals := 48 } [.ref (a 0), .int x] v (bI ((m_choose v x).1)) (sL v (m_choose v x).2) := by
  refine MI.ofZ (cc := prog_8_method_41_code) (nL := 2) (by decide) rfl (Nat.le_of_ble_eq_true rfl) ?_
  intro p e s m below meth c A Q K ret
  refine z_lvE (lv' := [(0, .ref (a 0)), (1, .int x)]) rfl ?_
  obtain ⟨⟨hm1, hm2, hm3, hm4⟩, hmV, hmn, hmq, hmp⟩ := id hm
  refine z_aload_n (pc := 0) K d_M_choose_0 rfl ?_
  refine z_iconst (pc := 1) K (v := 0) d_M_choose_1 (by decide) ?_
  refine z_put (pc := 2) K (ref := "DemandTermsModel") (ws' := (MW a cI cJ cZ v)) d_M_choose_2 hi_M ty_M ty_M_ok nm_M 0 rfl rfl 0 (by decide) k472 rfl rfl rfl rfl rfl (Nat.le_of_ble_eq_true rfl) rfl ?_
  refine z_aload_n (pc := 5) K d_M_choose_5 rfl ?_
  refine z_iload_n (pc := 6) K d_M_choose_6 rfl ?_
  refine z_cVi (pc := 7) K 0 (m_isTerm_c _ _ ) (cwA K 1 k568 k570 ks17 k7 k571 q_M_isTerm ⟨Nat.le_of_ble_eq_true rfl, Nat.le_of_ble_eq_true rfl⟩) d_M_choose_7 rfl rfl rfl rfl rfl (Nat.le_of_ble_eq_true rfl) ⟨Nat.le_of_ble_eq_true rfl, Nat.le_of_ble_eq_true rfl⟩ ?_
  refine z_ifb_ne (pc := 10) K (tgt := 15) d_M_choose_10 (by decide) (fun c10 => ?_) (fun c10 => ?_)
  · obtain ⟨ex, hx⟩ := hasIx_self (by omega) c10
    have hnx := hmn x.toNatClampNeg
    refine z_aload_n (pc := 15) K d_M_choose_15 rfl ?_
    refine z_sipush (pc := 16) K (v := 5400) d_M_choose_16 (by decide) ?_
    refine z_aload_n (pc := 19) K d_M_choose_19 rfl ?_
    refine z_get (pc := 20) K (ref := "DemandTermsModel") d_M_choose_20 hi_M 0 rfl rfl 6 (by decide) k478 rfl rfl ?_
    refine z_iload_n (pc := 23) K d_M_choose_23 rfl ?_
    refine z_iald (pc := 24) K d_M_choose_24 2 0 rfl rfl (hasIx_in c10 (show mT v ≤ 5420 by omega) (by decide)) ?_
    refine z_iadd (pc := 25) K d_M_choose_25 ?_
    refine z_eqi (ix5400 _) ?_
    refine z_sipush (pc := 26) K (v := 5400) d_M_choose_26 (by decide) ?_
    refine z_aload_n (pc := 29) K d_M_choose_29 rfl ?_
    refine z_get (pc := 30) K (ref := "DemandTermsModel") d_M_choose_30 hi_M 0 rfl rfl 6 (by decide) k478 rfl rfl ?_
    refine z_iload_n (pc := 33) K d_M_choose_33 rfl ?_
    refine z_iald (pc := 34) K d_M_choose_34 2 0 rfl rfl (hasIx_in c10 (show mT v ≤ 5420 by omega) (by decide)) ?_
    refine z_iadd (pc := 35) K d_M_choose_35 ?_
    refine z_eqi (ix5400 _) ?_
    refine z_iload_n (pc := 36) K d_M_choose_36 rfl ?_
    refine z_eqi ex ?_
    refine z_iconst (pc := 37) K (v := 0) d_M_choose_37 (by decide) ?_
    refine z_eqi (y := bI false) rfl ?_
    refine z_cVv (pc := 38) K 0 (m_join_c _ (5400 + (mL v).1 x.toNatClampNeg) (5400 + (mL v).1 x.toNatClampNeg) x.toNatClampNeg _ (by omega) (by omega) (by omega)) (cwA K 4 k572 k574 ks18 k7 k575 q_M_join ⟨Nat.le_of_ble_eq_true rfl, Nat.le_of_ble_eq_true rfl⟩) d_M_choose_38 rfl rfl rfl rfl rfl (Nat.le_of_ble_eq_true rfl) ⟨Nat.le_of_ble_eq_true rfl, Nat.le_of_ble_eq_true rfl⟩ ?_
    refine z_iconst (pc := 41) K (v := 1) d_M_choose_41 (by decide) ?_
    refine z_eqi (y := bI true) rfl ?_
    exact z_reti (pc := 42) ret d_M_choose_42 (by rw [m_choose, if_pos c10] <;> rfl) (by rw [m_choose, if_pos c10] <;> rfl)
  · refine z_iconst (pc := 13) K (v := 0) d_M_choose_13 (by decide) ?_
    refine z_eqi (y := bI false) rfl ?_
    exact z_reti (pc := 14) ret d_M_choose_14 (by rw [m_choose, if_neg (by rw [c10]; decide)] <;> rfl) (by rw [m_choose, if_neg (by rw [c10]; decide)] <;> rfl)
set_option maxRecDepth 100000 in
set_option maxHeartbeats 4000000 in
theorem m_forget_c (v : MS)  (hm : mOk v) : MV l D vwCl (CT cI cJ cC cZ) (MW a cI cJ cZ) y_M_forget (wA y_M_forget prog_8_method_42_code 2 none) { frames := 2, cells := 0, slots := 0, locals := 45 } [.ref (a 0)] v (sL v (m_fgl (mV v) (mN v) 0 (mL v))) := by
  refine MV.of (cc := prog_8_method_42_code) (nL := 2) (by decide) rfl (Nat.le_of_ble_eq_true rfl) ?_
  intro p e s m below meth c A Q K ret
  refine z_lvE (lv' := [(0, .ref (a 0))]) rfl ?_
  obtain ⟨⟨hm1, hm2, hm3, hm4⟩, hmV, hmn, hmq, hmp⟩ := id hm
  refine z_aload_n (pc := 0) K d_M_forget_0 rfl ?_
  refine z_iconst (pc := 1) K (v := 0) d_M_forget_1 (by decide) ?_
  refine z_put (pc := 2) K (ref := "DemandTermsModel") (ws' := (MW a cI cJ cZ v)) d_M_forget_2 hi_M ty_M ty_M_ok nm_M 0 rfl rfl 0 (by decide) k472 rfl rfl rfl rfl rfl (Nat.le_of_ble_eq_true rfl) rfl ?_
  refine z_iconst (pc := 5) K (v := 0) d_M_forget_5 (by decide) ?_
  refine z_istore_n (pc := 6) K d_M_forget_6 rfl (by decide) rfl ?_
  have LP : ∀ (n i : Nat) (s2 : SLt), i + n = mN v → (∀ t, s2.1 t < 16) → m_fgl (mV v) n i s2 = m_fgl (mV v) (mN v) 0 (mL v) → zW p l e { frames := 2, cells := 0, slots := 0, locals := 45 } s m [.ref (a 0)].toArray below meth c D vwCl A 2 0 0 Q (MW a cI cJ cZ (sL v s2)) 7 [(1, .int (nI i)), (0, .ref (a 0))] [] := by
    intro n
    induction n with
    | zero =>
      intro i s2 hi hs hf
      refine z_iload_n (pc := 7) K d_M_forget_7 rfl ?_
      refine z_aload_n (pc := 8) K d_M_forget_8 rfl ?_
      refine z_get (pc := 9) K (ref := "DemandTermsModel") d_M_forget_9 hi_M 0 rfl rfl 2 (by decide) k474 rfl rfl ?_
      refine z_icmp_ge (pc := 12) K (tgt := 30) d_M_forget_12 (by decide) (fun c12 => ?_) (fun c12 => ?_)
      · exact z_retv (pc := 30) ret d_M_forget_30 (by rw [← hf] <;> rfl)
      · exact absurd (nI_le (a := (mN v)) (b := i) (by omega) (by omega)) c12
    | succ n ih =>
      intro i s2 hi hs hf
      refine z_iload_n (pc := 7) K d_M_forget_7 rfl ?_
      refine z_aload_n (pc := 8) K d_M_forget_8 rfl ?_
      refine z_get (pc := 9) K (ref := "DemandTermsModel") d_M_forget_9 hi_M 0 rfl rfl 2 (by decide) k474 rfl rfl ?_
      refine z_icmp_ge (pc := 12) K (tgt := 30) d_M_forget_12 (by decide) (fun c12 => ?_) (fun c12 => ?_)
      · exact absurd c12 (nI_ge (a := i) (b := (mN v)) (by omega) (by omega))
      · refine z_aload_n (pc := 15) K d_M_forget_15 rfl ?_
        refine z_sipush (pc := 16) K (v := 5400) d_M_forget_16 (by decide) ?_
        refine z_iload_n (pc := 19) K d_M_forget_19 rfl ?_
        refine z_iadd (pc := 20) K d_M_forget_20 ?_
        refine z_eqi (ix5400 i) ?_
        refine z_cVv (pc := 21) K 0 (m_full_c (sL v s2) (5400 + i) (by omega) (hs _) (hmV _)) (cwA K 1 k544 k546 ks13 k7 k547 q_M_full ⟨Nat.le_of_ble_eq_true rfl, Nat.le_of_ble_eq_true rfl⟩) d_M_forget_21 rfl rfl rfl rfl rfl (Nat.le_of_ble_eq_true rfl) ⟨Nat.le_of_ble_eq_true rfl, Nat.le_of_ble_eq_true rfl⟩ ?_
        refine z_iinc (pc := 24) K (v := nI (i + 1)) d_M_forget_24 0 rfl (inc1 i) (by decide) rfl ?_
        refine z_goto (pc := 27) K (tgt := 7) d_M_forget_27 (by decide) ?_
        refine z_lv [0, 1] rfl ?_
        exact ih (i + 1) _ (by omega) (full_nm hs) (by rw [← hf] <;> rfl)
  refine z_lv [0, 1] rfl ?_
  exact LP _ 0 (mL v) (Nat.zero_add _) hmn rfl
end CM
