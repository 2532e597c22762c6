section CM
variable {l : Launch} {D : va_G} {a : Nat → Nat} {cI cJ cC cZ : ClassId}
set_option maxRecDepth 100000 in
set_option maxHeartbeats 4000000 in
theorem m_learn_c (v : MS) (x : Int32) (y : Int32) (z : Int32) (hm : mOk v) : MI l D vwCl (CT cI cJ cC cZ) (MW a cI cJ cZ) y_M_learn (wA y_M_learn prog_8_method_35_code 7 (some .int)) { frames := 3, cells := 0, slots := 0, locals := 68 } [.ref (a 0), .int x, .int y, .int z] v ((m_learn v x y z).1) ((m_learn v x y z).2) := by
  refine MI.of (cc := prog_8_method_35_code) (nL := 7) (by decide) rfl (Nat.le_of_ble_eq_true rfl) ?_
  intro p e s m below meth c A Q K ret
  refine z_lvE (lv' := [(0, .ref (a 0)), (1, .int x), (2, .int y), (3, .int z)]) rfl ?_
  obtain ⟨⟨hm1, hm2, hm3, hm4⟩, hmV, hmn, hmq, hmp⟩ := id hm
  refine z_aload_n (pc := 0) K d_M_learn_0 rfl ?_
  refine z_iconst (pc := 1) K (v := 0) d_M_learn_1 (by decide) ?_
  refine z_put (pc := 2) K (ref := "DemandTermsModel") (ws' := (MW a cI cJ cZ v)) d_M_learn_2 hi_M ty_M ty_M_ok nm_M 0 rfl rfl 0 (by decide) k472 rfl rfl rfl rfl rfl (Nat.le_of_ble_eq_true rfl) rfl ?_
  refine z_aload_n (pc := 5) K d_M_learn_5 rfl ?_
  refine z_iload_n (pc := 6) K d_M_learn_6 rfl ?_
  refine z_cVi (pc := 7) K 0 (m_isBar_c _ _ ) (cwA K 1 k664 k666 ks34 k7 k667 q_M_isBar ⟨Nat.le_of_ble_eq_true rfl, Nat.le_of_ble_eq_true rfl⟩) d_M_learn_7 rfl rfl rfl rfl rfl (Nat.le_of_ble_eq_true rfl) ⟨Nat.le_of_ble_eq_true rfl, Nat.le_of_ble_eq_true rfl⟩ ?_
  refine z_ifb_eq (pc := 10) K (tgt := 51) d_M_learn_10 (by decide) (fun c10 => ?_) (fun c10 => ?_)
  · refine z_iconst (pc := 51) K (v := (-1)) d_M_learn_51 (by decide) ?_
    exact z_reti (pc := 52) ret d_M_learn_52 (by simp [m_learn, m_lnOk, c10]) (by simp [m_learn, m_lnOk, c10])
  · refine z_aload_n (pc := 13) K d_M_learn_13 rfl ?_
    refine z_iload_n (pc := 14) K d_M_learn_14 rfl ?_
    refine z_cVi (pc := 15) K 0 (m_isBar_c _ _ ) (cwA K 1 k664 k666 ks34 k7 k667 q_M_isBar ⟨Nat.le_of_ble_eq_true rfl, Nat.le_of_ble_eq_true rfl⟩) d_M_learn_15 rfl rfl rfl rfl rfl (Nat.le_of_ble_eq_true rfl) ⟨Nat.le_of_ble_eq_true rfl, Nat.le_of_ble_eq_true rfl⟩ ?_
    refine z_ifb_eq (pc := 18) K (tgt := 51) d_M_learn_18 (by decide) (fun c18 => ?_) (fun c18 => ?_)
    · refine z_iconst (pc := 51) K (v := (-1)) d_M_learn_51 (by decide) ?_
      exact z_reti (pc := 52) ret d_M_learn_52 (by simp [m_learn, m_lnOk, c10, c18]) (by simp [m_learn, m_lnOk, c10, c18])
    · obtain ⟨ex, hx⟩ := hasIx_self (by omega) c10
      obtain ⟨ey, hy⟩ := hasIx_self (by omega) c18
      refine z_aload_n (pc := 21) K d_M_learn_21 rfl ?_
      refine z_get (pc := 22) K (ref := "DemandTermsModel") d_M_learn_22 hi_M 0 rfl rfl 4 (by decide) k476 rfl rfl ?_
      refine z_sipush (pc := 25) K (v := 300) d_M_learn_25 (by decide) ?_
      refine z_icmp_eq (pc := 28) K (tgt := 51) d_M_learn_28 (by decide) (fun c28 => ?_) (fun c28 => ?_)
      · refine z_iconst (pc := 51) K (v := (-1)) d_M_learn_51 (by decide) ?_
        exact z_reti (pc := 52) ret d_M_learn_52 (by simp [m_learn, m_lnOk, c10, c18, c28]) (by simp [m_learn, m_lnOk, c10, c18, c28])
      · refine z_aload_n (pc := 31) K d_M_learn_31 rfl ?_
        refine z_iload_n (pc := 32) K d_M_learn_32 rfl ?_
        refine z_eqi ex ?_
        refine z_iload_n (pc := 33) K d_M_learn_33 rfl ?_
        refine z_cVi (pc := 34) K 0 (m_partOf_c v x.toNatClampNeg _ hm (by omega)) (cwA K 2 k668 k670 ks35 k7 k671 q_M_partOf ⟨Nat.le_of_ble_eq_true rfl, Nat.le_of_ble_eq_true rfl⟩) d_M_learn_34 rfl rfl rfl rfl rfl (Nat.le_of_ble_eq_true rfl) ⟨Nat.le_of_ble_eq_true rfl, Nat.le_of_ble_eq_true rfl⟩ ?_
        refine z_iconst (pc := 37) K (v := (-1)) d_M_learn_37 (by decide) ?_
        refine z_icmp_eq (pc := 38) K (tgt := 51) d_M_learn_38 (by decide) (fun c38 => ?_) (fun c38 => ?_)
        · refine z_iconst (pc := 51) K (v := (-1)) d_M_learn_51 (by decide) ?_
          exact z_reti (pc := 52) ret d_M_learn_52 (by simp [m_learn, m_lnOk, c10, c18, c28, c38]) (by simp [m_learn, m_lnOk, c10, c18, c28, c38])
        · refine z_aload_n (pc := 41) K d_M_learn_41 rfl ?_
          refine z_iload_n (pc := 42) K d_M_learn_42 rfl ?_
          refine z_eqi ey ?_
          refine z_iload_n (pc := 43) K d_M_learn_43 rfl ?_
          refine z_cVi (pc := 44) K 0 (m_partOf_c v y.toNatClampNeg _ hm (by omega)) (cwA K 2 k668 k670 ks35 k7 k671 q_M_partOf ⟨Nat.le_of_ble_eq_true rfl, Nat.le_of_ble_eq_true rfl⟩) d_M_learn_44 rfl rfl rfl rfl rfl (Nat.le_of_ble_eq_true rfl) ⟨Nat.le_of_ble_eq_true rfl, Nat.le_of_ble_eq_true rfl⟩ ?_
          refine z_iconst (pc := 47) K (v := (-1)) d_M_learn_47 (by decide) ?_
          refine z_icmp_ne (pc := 48) K (tgt := 53) d_M_learn_48 (by decide) (fun c48 => ?_) (fun c48 => ?_)
          · have hok : m_lnOk v x y z = true := by simp [m_lnOk, c10, c18, c28, c38, c48]
            have hb3 : mB v < 300 := Nat.lt_of_le_of_ne hm3 (fun q => c28 (by rw [q] <;> rfl))
            refine z_aload_n (pc := 53) K d_M_learn_53 rfl ?_
            refine z_cVv (pc := 54) K 0 (m_begin_c v hb3) (cwA K 0 k632 k634 ks28 k7 k635 q_M_begin ⟨Nat.le_of_ble_eq_true rfl, Nat.le_of_ble_eq_true rfl⟩) d_M_learn_54 rfl rfl rfl rfl rfl (Nat.le_of_ble_eq_true rfl) ⟨Nat.le_of_ble_eq_true rfl, Nat.le_of_ble_eq_true rfl⟩ ?_
            refine z_iconst (pc := 57) K (v := 0) d_M_learn_57 (by decide) ?_
            refine z_istore (pc := 58) K d_M_learn_58 (by decide) rfl ?_
            have LP : ∀ (n i : Nat) (v2 : MS), i + n = mN v → mOk v2 → mK v2 = mK v → mP v2 (mB v) ≤ i → m_lnl x.toNatClampNeg y.toNatClampNeg z n i v2 = m_lnl x.toNatClampNeg y.toNatClampNeg z (mN v) 0 (m_begin v) → zW p l e { frames := 3, cells := 0, slots := 0, locals := 68 } s m [.ref (a 0), .int x, .int y, .int z].toArray below meth c D vwCl A 7 0 0 Q (MW a cI cJ cZ v2) 60 [(4, .int (nI i)), (0, .ref (a 0)), (1, .int x), (2, .int y), (3, .int z)] [] := by
              intro n
              induction n with
              | zero =>
                intro i v2 hi h2 hK hP hf
                have eB : mB v2 = mB v := congrArg (fun q : KS => q.2.2.1) hK
                have eN : mN v2 = mN v := congrArg (fun q : KS => q.1) hK
                refine z_iload (pc := 60) K d_M_learn_60 rfl ?_
                refine z_aload_n (pc := 62) K d_M_learn_62 rfl ?_
                refine z_get (pc := 63) K (ref := "DemandTermsModel") d_M_learn_63 hi_M 0 rfl rfl 2 (by decide) k474 rfl rfl ?_
                refine z_eqi (y := nI (mN v)) (by rw [eN]) ?_
                refine z_icmp_ge (pc := 66) K (tgt := 159) d_M_learn_66 (by decide) (fun c66 => ?_) (fun c66 => ?_)
                · refine z_aload_n (pc := 159) K d_M_learn_159 rfl ?_
                  refine z_dup (pc := 160) K d_M_learn_160 rfl ?_
                  refine z_get (pc := 161) K (ref := "DemandTermsModel") d_M_learn_161 hi_M 0 rfl rfl 4 (by decide) k476 rfl rfl ?_
                  refine z_iconst (pc := 164) K (v := 1) d_M_learn_164 (by decide) ?_
                  refine z_iadd (pc := 165) K d_M_learn_165 ?_
                  refine z_eqi (nI_1 _) ?_
                  refine z_put (pc := 166) K (ref := "DemandTermsModel") (ws' := (MW a cI cJ cZ (addBar v2))) d_M_learn_166 hi_M ty_M ty_M_ok nm_M 0 rfl rfl 4 (by decide) k476 rfl rfl rfl rfl rfl (Nat.le_of_ble_eq_true rfl) rfl ?_
                  refine z_aload_n (pc := 169) K d_M_learn_169 rfl ?_
                  refine z_get (pc := 170) K (ref := "DemandTermsModel") d_M_learn_170 hi_M 0 rfl rfl 4 (by decide) k476 rfl rfl ?_
                  refine z_iconst (pc := 173) K (v := 1) d_M_learn_173 (by decide) ?_
                  refine z_isub (pc := 174) K d_M_learn_174 ?_
                  exact z_reti (pc := 175) ret d_M_learn_175 (by rw [m_learn, if_pos hok, ← eB] <;> exact nI_pred _) (by rw [m_learn, if_pos hok, ← hf] <;> rfl)
                · exact absurd (nI_le (a := (mN v)) (b := i) (by omega) (by omega)) c66
              | succ n ih =>
                intro i v2 hi h2 hK hP hf
                have eB : mB v2 = mB v := congrArg (fun q : KS => q.2.2.1) hK
                have eN : mN v2 = mN v := congrArg (fun q : KS => q.1) hK
                have hp16 : mP v2 (mB v2) < 16 := by rw [eB]; omega
                refine z_iload (pc := 60) K d_M_learn_60 rfl ?_
                refine z_aload_n (pc := 62) K d_M_learn_62 rfl ?_
                refine z_get (pc := 63) K (ref := "DemandTermsModel") d_M_learn_63 hi_M 0 rfl rfl 2 (by decide) k474 rfl rfl ?_
                refine z_eqi (y := nI (mN v)) (by rw [eN]) ?_
                refine z_icmp_ge (pc := 66) K (tgt := 159) d_M_learn_66 (by decide) (fun c66 => ?_) (fun c66 => ?_)
                · exact absurd c66 (nI_ge (a := i) (b := (mN v)) (by omega) (by omega))
                · refine z_aload_n (pc := 69) K d_M_learn_69 rfl ?_
                  refine z_iload_n (pc := 70) K d_M_learn_70 rfl ?_
                  refine z_eqi ex ?_
                  refine z_iload (pc := 71) K d_M_learn_71 rfl ?_
                  refine z_cVi (pc := 73) K 0 (m_partOf_c v2 x.toNatClampNeg _ h2 (by omega)) (cwA K 2 k668 k670 ks35 k7 k671 q_M_partOf ⟨Nat.le_of_ble_eq_true rfl, Nat.le_of_ble_eq_true rfl⟩) d_M_learn_73 rfl rfl rfl rfl rfl (Nat.le_of_ble_eq_true rfl) ⟨Nat.le_of_ble_eq_true rfl, Nat.le_of_ble_eq_true rfl⟩ ?_
                  refine z_istore (pc := 76) K d_M_learn_76 (by decide) rfl ?_
                  refine z_aload_n (pc := 78) K d_M_learn_78 rfl ?_
                  refine z_iload_n (pc := 79) K d_M_learn_79 rfl ?_
                  refine z_eqi ey ?_
                  refine z_iload (pc := 80) K d_M_learn_80 rfl ?_
                  refine z_cVi (pc := 82) K 0 (m_partOf_c v2 y.toNatClampNeg _ h2 (by omega)) (cwA K 2 k668 k670 ks35 k7 k671 q_M_partOf ⟨Nat.le_of_ble_eq_true rfl, Nat.le_of_ble_eq_true rfl⟩) d_M_learn_82 rfl rfl rfl rfl rfl (Nat.le_of_ble_eq_true rfl) ⟨Nat.le_of_ble_eq_true rfl, Nat.le_of_ble_eq_true rfl⟩ ?_
                  refine z_istore (pc := 85) K d_M_learn_85 (by decide) rfl ?_
                  by_cases hp : m_po v2 x.toNatClampNeg (nI i) = none
                  · refine z_iload (pc := 87) K d_M_learn_87 rfl ?_
                    by_cases hq : m_po v2 y.toNatClampNeg (nI i) = none
                    · refine z_iconst (pc := 89) K (v := (-1)) d_M_learn_89 (by decide) ?_
                      refine z_icmp_ne (pc := 90) K (tgt := 102) d_M_learn_90 (by decide) (fun c90 => ?_) (fun c90 => ?_)
                      · exact absurd (by rw [hp]; rfl) c90
                      · refine z_iload (pc := 93) K d_M_learn_93 rfl ?_
                        refine z_iconst (pc := 95) K (v := (-1)) d_M_learn_95 (by decide) ?_
                        refine z_icmp_ne (pc := 96) K (tgt := 102) d_M_learn_96 (by decide) (fun c96 => ?_) (fun c96 => ?_)
                        · exact absurd (by rw [hq]; rfl) c96
                        · refine z_goto (pc := 99) K (tgt := 153) d_M_learn_99 (by decide) ?_
                          refine z_iinc (pc := 153) K (v := nI (i + 1)) d_M_learn_153 2 rfl (inc1 i) (by decide) rfl ?_
                          refine z_goto (pc := 156) K (tgt := 60) d_M_learn_156 (by decide) ?_
                          refine z_lv [0, 3, 4, 5, 6] rfl ?_
                          exact ih (i + 1) v2 (by omega) h2 hK (by omega) (by rw [← hf, m_lnl, hp, hq] <;> rfl)
                    · obtain ⟨q2, eq2⟩ := Option.ne_none_iff_exists'.mp hq
                      have hq2 : q2 < 5420 := po_lt h2 (by omega) eq2
                      refine z_iconst (pc := 89) K (v := (-1)) d_M_learn_89 (by decide) ?_
                      refine z_icmp_ne (pc := 90) K (tgt := 102) d_M_learn_90 (by decide) (fun c90 => ?_) (fun c90 => ?_)
                      · exact absurd (by rw [hp]; rfl) c90
                      · refine z_iload (pc := 93) K d_M_learn_93 rfl ?_
                        refine z_iconst (pc := 95) K (v := (-1)) d_M_learn_95 (by decide) ?_
                        refine z_icmp_ne (pc := 96) K (tgt := 102) d_M_learn_96 (by decide) (fun c96 => ?_) (fun c96 => ?_)
                        · refine z_aload_n (pc := 102) K d_M_learn_102 rfl ?_
                          refine z_sipush (pc := 103) K (v := 5416) d_M_learn_103 (by decide) ?_
                          refine z_iload (pc := 106) K d_M_learn_106 rfl ?_
                          refine z_iconst (pc := 108) K (v := (-1)) d_M_learn_108 (by decide) ?_
                          refine z_icmp_ne (pc := 109) K (tgt := 117) d_M_learn_109 (by decide) (fun c109 => ?_) (fun c109 => ?_)
                          · exact absurd (by rw [hp]; rfl) c109
                          · refine z_iload (pc := 112) K d_M_learn_112 rfl ?_
                            refine z_goto (pc := 114) K (tgt := 119) d_M_learn_114 (by decide) ?_
                            refine z_eqi (y := nI q2) (by rw [eq2] <;> rfl) ?_
                            refine z_iload (pc := 119) K d_M_learn_119 rfl ?_
                            refine z_iconst (pc := 121) K (v := (-1)) d_M_learn_121 (by decide) ?_
                            refine z_icmp_ne (pc := 122) K (tgt := 130) d_M_learn_122 (by decide) (fun c122 => ?_) (fun c122 => ?_)
                            · refine z_iload (pc := 130) K d_M_learn_130 rfl ?_
                              refine z_eqi (y := nI q2) (by rw [eq2] <;> rfl) ?_
                              refine z_iload (pc := 132) K d_M_learn_132 rfl ?_
                              refine z_iload_n (pc := 134) K d_M_learn_134 rfl ?_
                              refine z_icmp_ne (pc := 135) K (tgt := 142) d_M_learn_135 (by decide) (fun c135 => ?_) (fun c135 => ?_)
                              · refine z_iconst (pc := 142) K (v := 0) d_M_learn_142 (by decide) ?_
                                refine z_eqi (y := bI (decide (nI i = z))) (by rw [decide_eq_false c135] <;> rfl) ?_
                                refine z_cVv (pc := 143) K 0 (m_join_c v2 5416 q2 q2 (decide (nI i = z)) (by decide) (by omega) (by omega)) (cwA K 4 k572 k574 ks18 k7 k575 q_M_join ⟨Nat.le_of_ble_eq_true rfl, Nat.le_of_ble_eq_true rfl⟩) d_M_learn_143 rfl rfl rfl rfl rfl (Nat.le_of_ble_eq_true rfl) ⟨Nat.le_of_ble_eq_true rfl, Nat.le_of_ble_eq_true rfl⟩ ?_
                                refine z_aload_n (pc := 146) K d_M_learn_146 rfl ?_
                                refine z_sipush (pc := 147) K (v := 5416) d_M_learn_147 (by decide) ?_
                                refine z_cVv (pc := 150) K 0 (m_addPart_c (sL v2 (m_join (mL v2) 5416 q2 q2 (decide (nI i = z)))) 5416 (mok_L h2 (join_nm h2.2.2.1)) (by decide) (show mB v2 < 300 by rw [eB]; exact hb3) hp16) (cwA K 1 k644 k646 ks31 k7 k647 q_M_addPart ⟨Nat.le_of_ble_eq_true rfl, Nat.le_of_ble_eq_true rfl⟩) d_M_learn_150 rfl rfl rfl rfl rfl (Nat.le_of_ble_eq_true rfl) ⟨Nat.le_of_ble_eq_true rfl, Nat.le_of_ble_eq_true rfl⟩ ?_
                                refine z_ws (ws' := (MW a cI cJ cZ (m_ln1 v2 q2 q2 (decide (nI i = z))))) rfl ?_
                                refine z_iinc (pc := 153) K (v := nI (i + 1)) d_M_learn_153 2 rfl (inc1 i) (by decide) rfl ?_
                                refine z_goto (pc := 156) K (tgt := 60) d_M_learn_156 (by decide) ?_
                                refine z_lv [0, 3, 4, 5, 6] rfl ?_
                                exact ih (i + 1) (m_ln1 v2 q2 q2 (decide (nI i = z))) (by omega) (ln1_ok h2 hp16) ((ln1_K v2 q2 q2 (decide (nI i = z))).trans hK) (by have h9 := ln1_P v2 q2 q2 (decide (nI i = z)); rw [eB] at h9; omega) (by rw [← hf, m_lnl, hp, eq2] <;> rfl)
                              · refine z_iconst (pc := 138) K (v := 1) d_M_learn_138 (by decide) ?_
                                refine z_goto (pc := 139) K (tgt := 143) d_M_learn_139 (by decide) ?_
                                refine z_eqi (y := bI (decide (nI i = z))) (by rw [decide_eq_true c135] <;> rfl) ?_
                                refine z_cVv (pc := 143) K 0 (m_join_c v2 5416 q2 q2 (decide (nI i = z)) (by decide) (by omega) (by omega)) (cwA K 4 k572 k574 ks18 k7 k575 q_M_join ⟨Nat.le_of_ble_eq_true rfl, Nat.le_of_ble_eq_true rfl⟩) d_M_learn_143 rfl rfl rfl rfl rfl (Nat.le_of_ble_eq_true rfl) ⟨Nat.le_of_ble_eq_true rfl, Nat.le_of_ble_eq_true rfl⟩ ?_
                                refine z_aload_n (pc := 146) K d_M_learn_146 rfl ?_
                                refine z_sipush (pc := 147) K (v := 5416) d_M_learn_147 (by decide) ?_
                                refine z_cVv (pc := 150) K 0 (m_addPart_c (sL v2 (m_join (mL v2) 5416 q2 q2 (decide (nI i = z)))) 5416 (mok_L h2 (join_nm h2.2.2.1)) (by decide) (show mB v2 < 300 by rw [eB]; exact hb3) hp16) (cwA K 1 k644 k646 ks31 k7 k647 q_M_addPart ⟨Nat.le_of_ble_eq_true rfl, Nat.le_of_ble_eq_true rfl⟩) d_M_learn_150 rfl rfl rfl rfl rfl (Nat.le_of_ble_eq_true rfl) ⟨Nat.le_of_ble_eq_true rfl, Nat.le_of_ble_eq_true rfl⟩ ?_
                                refine z_ws (ws' := (MW a cI cJ cZ (m_ln1 v2 q2 q2 (decide (nI i = z))))) rfl ?_
                                refine z_iinc (pc := 153) K (v := nI (i + 1)) d_M_learn_153 2 rfl (inc1 i) (by decide) rfl ?_
                                refine z_goto (pc := 156) K (tgt := 60) d_M_learn_156 (by decide) ?_
                                refine z_lv [0, 3, 4, 5, 6] rfl ?_
                                exact ih (i + 1) (m_ln1 v2 q2 q2 (decide (nI i = z))) (by omega) (ln1_ok h2 hp16) ((ln1_K v2 q2 q2 (decide (nI i = z))).trans hK) (by have h9 := ln1_P v2 q2 q2 (decide (nI i = z)); rw [eB] at h9; omega) (by rw [← hf, m_lnl, hp, eq2] <;> rfl)
                            · exact absurd c122 (by rw [eq2]; exact fI_some (by omega))
                        · exact absurd c96 (by rw [eq2]; exact fI_some (by omega))
                  · obtain ⟨p2, ep⟩ := Option.ne_none_iff_exists'.mp hp
                    have hp2 : p2 < 5420 := po_lt h2 (by omega) ep
                    refine z_iload (pc := 87) K d_M_learn_87 rfl ?_
                    by_cases hq : m_po v2 y.toNatClampNeg (nI i) = none
                    · refine z_iconst (pc := 89) K (v := (-1)) d_M_learn_89 (by decide) ?_
                      refine z_icmp_ne (pc := 90) K (tgt := 102) d_M_learn_90 (by decide) (fun c90 => ?_) (fun c90 => ?_)
                      · refine z_aload_n (pc := 102) K d_M_learn_102 rfl ?_
                        refine z_sipush (pc := 103) K (v := 5416) d_M_learn_103 (by decide) ?_
                        refine z_iload (pc := 106) K d_M_learn_106 rfl ?_
                        refine z_iconst (pc := 108) K (v := (-1)) d_M_learn_108 (by decide) ?_
                        refine z_icmp_ne (pc := 109) K (tgt := 117) d_M_learn_109 (by decide) (fun c109 => ?_) (fun c109 => ?_)
                        · refine z_iload (pc := 117) K d_M_learn_117 rfl ?_
                          refine z_eqi (y := nI p2) (by rw [ep] <;> rfl) ?_
                          refine z_iload (pc := 119) K d_M_learn_119 rfl ?_
                          refine z_iconst (pc := 121) K (v := (-1)) d_M_learn_121 (by decide) ?_
                          refine z_icmp_ne (pc := 122) K (tgt := 130) d_M_learn_122 (by decide) (fun c122 => ?_) (fun c122 => ?_)
                          · exact absurd (by rw [hq]; rfl) c122
                          · refine z_iload (pc := 125) K d_M_learn_125 rfl ?_
                            refine z_goto (pc := 127) K (tgt := 132) d_M_learn_127 (by decide) ?_
                            refine z_eqi (y := nI p2) (by rw [ep] <;> rfl) ?_
                            refine z_iload (pc := 132) K d_M_learn_132 rfl ?_
                            refine z_iload_n (pc := 134) K d_M_learn_134 rfl ?_
                            refine z_icmp_ne (pc := 135) K (tgt := 142) d_M_learn_135 (by decide) (fun c135 => ?_) (fun c135 => ?_)
                            · refine z_iconst (pc := 142) K (v := 0) d_M_learn_142 (by decide) ?_
                              refine z_eqi (y := bI (decide (nI i = z))) (by rw [decide_eq_false c135] <;> rfl) ?_
                              refine z_cVv (pc := 143) K 0 (m_join_c v2 5416 p2 p2 (decide (nI i = z)) (by decide) (by omega) (by omega)) (cwA K 4 k572 k574 ks18 k7 k575 q_M_join ⟨Nat.le_of_ble_eq_true rfl, Nat.le_of_ble_eq_true rfl⟩) d_M_learn_143 rfl rfl rfl rfl rfl (Nat.le_of_ble_eq_true rfl) ⟨Nat.le_of_ble_eq_true rfl, Nat.le_of_ble_eq_true rfl⟩ ?_
                              refine z_aload_n (pc := 146) K d_M_learn_146 rfl ?_
                              refine z_sipush (pc := 147) K (v := 5416) d_M_learn_147 (by decide) ?_
                              refine z_cVv (pc := 150) K 0 (m_addPart_c (sL v2 (m_join (mL v2) 5416 p2 p2 (decide (nI i = z)))) 5416 (mok_L h2 (join_nm h2.2.2.1)) (by decide) (show mB v2 < 300 by rw [eB]; exact hb3) hp16) (cwA K 1 k644 k646 ks31 k7 k647 q_M_addPart ⟨Nat.le_of_ble_eq_true rfl, Nat.le_of_ble_eq_true rfl⟩) d_M_learn_150 rfl rfl rfl rfl rfl (Nat.le_of_ble_eq_true rfl) ⟨Nat.le_of_ble_eq_true rfl, Nat.le_of_ble_eq_true rfl⟩ ?_
                              refine z_ws (ws' := (MW a cI cJ cZ (m_ln1 v2 p2 p2 (decide (nI i = z))))) rfl ?_
                              refine z_iinc (pc := 153) K (v := nI (i + 1)) d_M_learn_153 2 rfl (inc1 i) (by decide) rfl ?_
                              refine z_goto (pc := 156) K (tgt := 60) d_M_learn_156 (by decide) ?_
                              refine z_lv [0, 3, 4, 5, 6] rfl ?_
                              exact ih (i + 1) (m_ln1 v2 p2 p2 (decide (nI i = z))) (by omega) (ln1_ok h2 hp16) ((ln1_K v2 p2 p2 (decide (nI i = z))).trans hK) (by have h9 := ln1_P v2 p2 p2 (decide (nI i = z)); rw [eB] at h9; omega) (by rw [← hf, m_lnl, ep, hq] <;> rfl)
                            · refine z_iconst (pc := 138) K (v := 1) d_M_learn_138 (by decide) ?_
                              refine z_goto (pc := 139) K (tgt := 143) d_M_learn_139 (by decide) ?_
                              refine z_eqi (y := bI (decide (nI i = z))) (by rw [decide_eq_true c135] <;> rfl) ?_
                              refine z_cVv (pc := 143) K 0 (m_join_c v2 5416 p2 p2 (decide (nI i = z)) (by decide) (by omega) (by omega)) (cwA K 4 k572 k574 ks18 k7 k575 q_M_join ⟨Nat.le_of_ble_eq_true rfl, Nat.le_of_ble_eq_true rfl⟩) d_M_learn_143 rfl rfl rfl rfl rfl (Nat.le_of_ble_eq_true rfl) ⟨Nat.le_of_ble_eq_true rfl, Nat.le_of_ble_eq_true rfl⟩ ?_
                              refine z_aload_n (pc := 146) K d_M_learn_146 rfl ?_
                              refine z_sipush (pc := 147) K (v := 5416) d_M_learn_147 (by decide) ?_
                              refine z_cVv (pc := 150) K 0 (m_addPart_c (sL v2 (m_join (mL v2) 5416 p2 p2 (decide (nI i = z)))) 5416 (mok_L h2 (join_nm h2.2.2.1)) (by decide) (show mB v2 < 300 by rw [eB]; exact hb3) hp16) (cwA K 1 k644 k646 ks31 k7 k647 q_M_addPart ⟨Nat.le_of_ble_eq_true rfl, Nat.le_of_ble_eq_true rfl⟩) d_M_learn_150 rfl rfl rfl rfl rfl (Nat.le_of_ble_eq_true rfl) ⟨Nat.le_of_ble_eq_true rfl, Nat.le_of_ble_eq_true rfl⟩ ?_
                              refine z_ws (ws' := (MW a cI cJ cZ (m_ln1 v2 p2 p2 (decide (nI i = z))))) rfl ?_
                              refine z_iinc (pc := 153) K (v := nI (i + 1)) d_M_learn_153 2 rfl (inc1 i) (by decide) rfl ?_
                              refine z_goto (pc := 156) K (tgt := 60) d_M_learn_156 (by decide) ?_
                              refine z_lv [0, 3, 4, 5, 6] rfl ?_
                              exact ih (i + 1) (m_ln1 v2 p2 p2 (decide (nI i = z))) (by omega) (ln1_ok h2 hp16) ((ln1_K v2 p2 p2 (decide (nI i = z))).trans hK) (by have h9 := ln1_P v2 p2 p2 (decide (nI i = z)); rw [eB] at h9; omega) (by rw [← hf, m_lnl, ep, hq] <;> rfl)
                        · exact absurd c109 (by rw [ep]; exact fI_some (by omega))
                      · exact absurd c90 (by rw [ep]; exact fI_some (by omega))
                    · obtain ⟨q2, eq2⟩ := Option.ne_none_iff_exists'.mp hq
                      have hq2 : q2 < 5420 := po_lt h2 (by omega) eq2
                      refine z_iconst (pc := 89) K (v := (-1)) d_M_learn_89 (by decide) ?_
                      refine z_icmp_ne (pc := 90) K (tgt := 102) d_M_learn_90 (by decide) (fun c90 => ?_) (fun c90 => ?_)
                      · refine z_aload_n (pc := 102) K d_M_learn_102 rfl ?_
                        refine z_sipush (pc := 103) K (v := 5416) d_M_learn_103 (by decide) ?_
                        refine z_iload (pc := 106) K d_M_learn_106 rfl ?_
                        refine z_iconst (pc := 108) K (v := (-1)) d_M_learn_108 (by decide) ?_
                        refine z_icmp_ne (pc := 109) K (tgt := 117) d_M_learn_109 (by decide) (fun c109 => ?_) (fun c109 => ?_)
                        · refine z_iload (pc := 117) K d_M_learn_117 rfl ?_
                          refine z_eqi (y := nI p2) (by rw [ep] <;> rfl) ?_
                          refine z_iload (pc := 119) K d_M_learn_119 rfl ?_
                          refine z_iconst (pc := 121) K (v := (-1)) d_M_learn_121 (by decide) ?_
                          refine z_icmp_ne (pc := 122) K (tgt := 130) d_M_learn_122 (by decide) (fun c122 => ?_) (fun c122 => ?_)
                          · refine z_iload (pc := 130) K d_M_learn_130 rfl ?_
                            refine z_eqi (y := nI q2) (by rw [eq2] <;> rfl) ?_
                            refine z_iload (pc := 132) K d_M_learn_132 rfl ?_
                            refine z_iload_n (pc := 134) K d_M_learn_134 rfl ?_
                            refine z_icmp_ne (pc := 135) K (tgt := 142) d_M_learn_135 (by decide) (fun c135 => ?_) (fun c135 => ?_)
                            · refine z_iconst (pc := 142) K (v := 0) d_M_learn_142 (by decide) ?_
                              refine z_eqi (y := bI (decide (nI i = z))) (by rw [decide_eq_false c135] <;> rfl) ?_
                              refine z_cVv (pc := 143) K 0 (m_join_c v2 5416 p2 q2 (decide (nI i = z)) (by decide) (by omega) (by omega)) (cwA K 4 k572 k574 ks18 k7 k575 q_M_join ⟨Nat.le_of_ble_eq_true rfl, Nat.le_of_ble_eq_true rfl⟩) d_M_learn_143 rfl rfl rfl rfl rfl (Nat.le_of_ble_eq_true rfl) ⟨Nat.le_of_ble_eq_true rfl, Nat.le_of_ble_eq_true rfl⟩ ?_
                              refine z_aload_n (pc := 146) K d_M_learn_146 rfl ?_
                              refine z_sipush (pc := 147) K (v := 5416) d_M_learn_147 (by decide) ?_
                              refine z_cVv (pc := 150) K 0 (m_addPart_c (sL v2 (m_join (mL v2) 5416 p2 q2 (decide (nI i = z)))) 5416 (mok_L h2 (join_nm h2.2.2.1)) (by decide) (show mB v2 < 300 by rw [eB]; exact hb3) hp16) (cwA K 1 k644 k646 ks31 k7 k647 q_M_addPart ⟨Nat.le_of_ble_eq_true rfl, Nat.le_of_ble_eq_true rfl⟩) d_M_learn_150 rfl rfl rfl rfl rfl (Nat.le_of_ble_eq_true rfl) ⟨Nat.le_of_ble_eq_true rfl, Nat.le_of_ble_eq_true rfl⟩ ?_
                              refine z_ws (ws' := (MW a cI cJ cZ (m_ln1 v2 p2 q2 (decide (nI i = z))))) rfl ?_
                              refine z_iinc (pc := 153) K (v := nI (i + 1)) d_M_learn_153 2 rfl (inc1 i) (by decide) rfl ?_
                              refine z_goto (pc := 156) K (tgt := 60) d_M_learn_156 (by decide) ?_
                              refine z_lv [0, 3, 4, 5, 6] rfl ?_
                              exact ih (i + 1) (m_ln1 v2 p2 q2 (decide (nI i = z))) (by omega) (ln1_ok h2 hp16) ((ln1_K v2 p2 q2 (decide (nI i = z))).trans hK) (by have h9 := ln1_P v2 p2 q2 (decide (nI i = z)); rw [eB] at h9; omega) (by rw [← hf, m_lnl, ep, eq2] <;> rfl)
                            · refine z_iconst (pc := 138) K (v := 1) d_M_learn_138 (by decide) ?_
                              refine z_goto (pc := 139) K (tgt := 143) d_M_learn_139 (by decide) ?_
                              refine z_eqi (y := bI (decide (nI i = z))) (by rw [decide_eq_true c135] <;> rfl) ?_
                              refine z_cVv (pc := 143) K 0 (m_join_c v2 5416 p2 q2 (decide (nI i = z)) (by decide) (by omega) (by omega)) (cwA K 4 k572 k574 ks18 k7 k575 q_M_join ⟨Nat.le_of_ble_eq_true rfl, Nat.le_of_ble_eq_true rfl⟩) d_M_learn_143 rfl rfl rfl rfl rfl (Nat.le_of_ble_eq_true rfl) ⟨Nat.le_of_ble_eq_true rfl, Nat.le_of_ble_eq_true rfl⟩ ?_
                              refine z_aload_n (pc := 146) K d_M_learn_146 rfl ?_
                              refine z_sipush (pc := 147) K (v := 5416) d_M_learn_147 (by decide) ?_
                              refine z_cVv (pc := 150) K 0 (m_addPart_c (sL v2 (m_join (mL v2) 5416 p2 q2 (decide (nI i = z)))) 5416 (mok_L h2 (join_nm h2.2.2.1)) (by decide) (show mB v2 < 300 by rw [eB]; exact hb3) hp16) (cwA K 1 k644 k646 ks31 k7 k647 q_M_addPart ⟨Nat.le_of_ble_eq_true rfl, Nat.le_of_ble_eq_true rfl⟩) d_M_learn_150 rfl rfl rfl rfl rfl (Nat.le_of_ble_eq_true rfl) ⟨Nat.le_of_ble_eq_true rfl, Nat.le_of_ble_eq_true rfl⟩ ?_
                              refine z_ws (ws' := (MW a cI cJ cZ (m_ln1 v2 p2 q2 (decide (nI i = z))))) rfl ?_
                              refine z_iinc (pc := 153) K (v := nI (i + 1)) d_M_learn_153 2 rfl (inc1 i) (by decide) rfl ?_
                              refine z_goto (pc := 156) K (tgt := 60) d_M_learn_156 (by decide) ?_
                              refine z_lv [0, 3, 4, 5, 6] rfl ?_
                              exact ih (i + 1) (m_ln1 v2 p2 q2 (decide (nI i = z))) (by omega) (ln1_ok h2 hp16) ((ln1_K v2 p2 q2 (decide (nI i = z))).trans hK) (by have h9 := ln1_P v2 p2 q2 (decide (nI i = z)); rw [eB] at h9; omega) (by rw [← hf, m_lnl, ep, eq2] <;> rfl)
                          · exact absurd c122 (by rw [eq2]; exact fI_some (by omega))
                        · exact absurd c109 (by rw [ep]; exact fI_some (by omega))
                      · exact absurd c90 (by rw [ep]; exact fI_some (by omega))
            refine z_lv [0, 1, 2, 3, 4] rfl ?_
            exact LP _ 0 (m_begin v) (Nat.zero_add _) (mok_begin hm) rfl (by rw [begin_P]; exact Nat.le_refl _) rfl
          · refine z_iconst (pc := 51) K (v := (-1)) d_M_learn_51 (by decide) ?_
            exact z_reti (pc := 52) ret d_M_learn_52 (by simp [m_learn, m_lnOk, c10, c18, c28, c38, c48]) (by simp [m_learn, m_lnOk, c10, c18, c28, c38, c48])
set_option maxRecDepth 100000 in
set_option maxHeartbeats 4000000 in
theorem m_spread_c (v : MS)  (N : Nat) (r : Int32) (s9 : SLt) (hm : mOk v) (hs : m_spo v N true (mL v) = some (r, s9)) : MI l D vwCl (CT cI cJ cC cZ) (MW a cI cJ cZ) y_M_spread (wA y_M_spread prog_8_method_50_code 7 (some .int)) { frames := 6, cells := 0, slots := 0, locals := 135 } [.ref (a 0)] v (r) (sL v s9) := by
  refine MI.of (cc := prog_8_method_50_code) (nL := 7) (by decide) rfl (Nat.le_of_ble_eq_true rfl) ?_
  intro p e s m below meth c A Q K ret
  refine z_lvE (lv' := [(0, .ref (a 0))]) rfl ?_
  obtain ⟨⟨hm1, hm2, hm3, hm4⟩, hmV, hmn, hmq, hmp⟩ := id hm
  refine z_aload_n (pc := 0) K d_M_spread_0 rfl ?_
  refine z_iconst (pc := 1) K (v := 0) d_M_spread_1 (by decide) ?_
  refine z_put (pc := 2) K (ref := "DemandTermsModel") (ws' := (MW a cI cJ cZ v)) d_M_spread_2 hi_M ty_M ty_M_ok nm_M 0 rfl rfl 0 (by decide) k472 rfl rfl rfl rfl rfl (Nat.le_of_ble_eq_true rfl) rfl ?_
  refine z_iconst (pc := 5) K (v := 1) d_M_spread_5 (by decide) ?_
  refine z_istore_n (pc := 6) K d_M_spread_6 rfl (by decide) rfl ?_
  have LP : ∀ (n : Nat) (f : Bool) (s2 : SLt), (∀ t, s2.1 t < 16) → m_spo v n f s2 = some (r, s9) → zW p l e { frames := 6, cells := 0, slots := 0, locals := 135 } s m [.ref (a 0)].toArray below meth c D vwCl A 7 0 0 Q (MW a cI cJ cZ (sL v s2)) 7 [(1, .int (bI f)), (0, .ref (a 0))] [] := by
    intro n
    induction n with
    | zero =>
      intro f s2 hs2 hf
      exact absurd hf (by simp [m_spo])
    | succ n ih =>
      intro f s2 hs2 hf
      refine z_iload_n (pc := 7) K d_M_spread_7 rfl ?_
      refine z_ifb_eq (pc := 8) K (tgt := 138) d_M_spread_8 (by decide) (fun c8 => ?_) (fun c8 => ?_)
      · have e9 : (-1, s2) = (r, s9) := by rw [m_spo, if_pos c8] at hf; exact Option.some.inj hf
        refine z_iconst (pc := 138) K (v := (-1)) d_M_spread_138 (by decide) ?_
        exact z_reti (pc := 139) ret d_M_spread_139 (congrArg (fun q : Int32 × SLt => q.1) e9) (by rw [show s2 = s9 from congrArg (fun q : Int32 × SLt => q.2) e9])
      · refine z_iconst (pc := 11) K (v := 0) d_M_spread_11 (by decide) ?_
        refine z_eqi (y := bI false) rfl ?_
        refine z_istore_n (pc := 12) K d_M_spread_12 rfl (by decide) rfl ?_
        refine z_iconst (pc := 13) K (v := 0) d_M_spread_13 (by decide) ?_
        refine z_istore_n (pc := 14) K d_M_spread_14 rfl (by decide) rfl ?_
        have LQ : ∀ (n2 k : Nat) (f2 : Bool) (s3 : SLt), k + n2 = mB v → (∀ t, s3.1 t < 16) → m_spi v n2 k f2 s3 = m_spi v (mB v) 0 false s2 → zW p l e { frames := 6, cells := 0, slots := 0, locals := 135 } s m [.ref (a 0)].toArray below meth c D vwCl A 7 0 0 Q (MW a cI cJ cZ (sL v s3)) 15 [(2, .int (nI k)), (1, .int (bI f2)), (0, .ref (a 0))] [] := by
          intro n2
          induction n2 with
          | zero =>
            intro k f2 s3 hk hs3 hf2
            refine z_iload_n (pc := 15) K d_M_spread_15 rfl ?_
            refine z_aload_n (pc := 16) K d_M_spread_16 rfl ?_
            refine z_get (pc := 17) K (ref := "DemandTermsModel") d_M_spread_17 hi_M 0 rfl rfl 4 (by decide) k476 rfl rfl ?_
            refine z_icmp_ge (pc := 20) K (tgt := 135) d_M_spread_20 (by decide) (fun c20 => ?_) (fun c20 => ?_)
            · have hm3 : m_spi v (mB v) 0 false s2 = (none, f2, s3) := by rw [← hf2] <;> rfl
              refine z_goto (pc := 135) K (tgt := 7) d_M_spread_135 (by decide) ?_
              refine z_lv [1, 2] rfl ?_
              exact ih _ _ hs3 (by rw [m_spo, if_neg (by rw [c8]; decide), hm3] at hf; exact hf)
            · exact absurd (nI_le (a := (mB v)) (b := k) (by omega) (by omega)) c20
          | succ n2 ih2 =>
            intro k f2 s3 hk hs3 hf2
            refine z_iload_n (pc := 15) K d_M_spread_15 rfl ?_
            refine z_aload_n (pc := 16) K d_M_spread_16 rfl ?_
            refine z_get (pc := 17) K (ref := "DemandTermsModel") d_M_spread_17 hi_M 0 rfl rfl 4 (by decide) k476 rfl rfl ?_
            refine z_icmp_ge (pc := 20) K (tgt := 135) d_M_spread_20 (by decide) (fun c20 => ?_) (fun c20 => ?_)
            · exact absurd c20 (nI_ge (a := k) (b := (mB v)) (by omega) (by omega))
            · refine z_aload_n (pc := 23) K d_M_spread_23 rfl ?_
              refine z_iload_n (pc := 24) K d_M_spread_24 rfl ?_
              refine z_cVi (pc := 25) K 0 (m_look_c (sL v s3) k (mok_L hm hs3) (by omega)) (cwA K 1 k704 k706 ks37 k7 k707 q_M_look ⟨Nat.le_of_ble_eq_true rfl, Nat.le_of_ble_eq_true rfl⟩) d_M_spread_25 rfl rfl rfl rfl rfl (Nat.le_of_ble_eq_true rfl) ⟨Nat.le_of_ble_eq_true rfl, Nat.le_of_ble_eq_true rfl⟩ ?_
              refine z_istore_n (pc := 28) K d_M_spread_28 rfl (by decide) rfl ?_
              refine z_iload_n (pc := 29) K d_M_spread_29 rfl ?_
              refine z_iconst (pc := 30) K (v := 1) d_M_spread_30 (by decide) ?_
              refine z_icmp_ne (pc := 31) K (tgt := 39) d_M_spread_31 (by decide) (fun c31 => ?_) (fun c31 => ?_)
              · refine z_iload_n (pc := 39) K d_M_spread_39 rfl ?_
                refine z_iconst (pc := 40) K (v := 2) d_M_spread_40 (by decide) ?_
                refine z_icmp_eq (pc := 41) K (tgt := 47) d_M_spread_41 (by decide) (fun c41 => ?_) (fun c41 => ?_)
                · obtain ⟨i, ei, hik⟩ := look_op c41
                  have hpk := hmp k
                  have hi16 : i < mP v k := hik
                  have hnt := hs3 (600 + 16 * k + i)
                  refine z_sipush (pc := 47) K (v := 600) d_M_spread_47 (by decide) ?_
                  refine z_bipush (pc := 50) K (v := 16) d_M_spread_50 (by decide) ?_
                  refine z_iload_n (pc := 52) K d_M_spread_52 rfl ?_
                  refine z_imul (pc := 53) K d_M_spread_53 ?_
                  refine z_iadd (pc := 54) K d_M_spread_54 ?_
                  refine z_aload_n (pc := 55) K d_M_spread_55 rfl ?_
                  refine z_iload_n (pc := 56) K d_M_spread_56 rfl ?_
                  refine z_cVi (pc := 57) K 0 (m_openPart_c (sL v s3) k (mok_L hm hs3) (by omega)) (cwA K 1 k720 k722 ks40 k7 k723 q_M_openPart ⟨Nat.le_of_ble_eq_true rfl, Nat.le_of_ble_eq_true rfl⟩) d_M_spread_57 rfl rfl rfl rfl rfl (Nat.le_of_ble_eq_true rfl) ⟨Nat.le_of_ble_eq_true rfl, Nat.le_of_ble_eq_true rfl⟩ ?_
                  refine z_iadd (pc := 60) K d_M_spread_60 ?_
                  refine z_eqi (y := nI (600 + 16 * k + i)) (by rw [ei]; exact ix600 k i) ?_
                  refine z_istore (pc := 61) K d_M_spread_61 (by decide) rfl ?_
                  refine z_sipush (pc := 63) K (v := 5400) d_M_spread_63 (by decide) ?_
                  refine z_aload_n (pc := 66) K d_M_spread_66 rfl ?_
                  refine z_get (pc := 67) K (ref := "DemandTermsModel") d_M_spread_67 hi_M 0 rfl rfl 6 (by decide) k478 rfl rfl ?_
                  refine z_iload (pc := 70) K d_M_spread_70 rfl ?_
                  refine z_iald (pc := 72) K d_M_spread_72 2 0 rfl rfl (vp_in_nI (by omega) (by decide)) ?_
                  refine z_eqi (y := nI (s3.1 (600 + 16 * k + i))) (by rw [nI_clamp (show (600 + 16 * k + i) < 2 ^ 31 by omega)] <;> rfl) ?_
                  refine z_iadd (pc := 73) K d_M_spread_73 ?_
                  refine z_eqi (ix5400 _) ?_
                  refine z_istore (pc := 74) K d_M_spread_74 (by decide) rfl ?_
                  refine z_iconst (pc := 76) K (v := (-1)) d_M_spread_76 (by decide) ?_
                  refine z_istore (pc := 77) K d_M_spread_77 (by decide) rfl ?_
                  have L3 : ∀ (n3 b : Nat), b + n3 = 49 → zW p l e { frames := 6, cells := 0, slots := 0, locals := 135 } s m [.ref (a 0)].toArray below meth c D vwCl A 7 0 0 Q (MW a cI cJ cZ (sL v (s3.1, setU s3.2 (5400 + s3.1 (600 + 16 * k + i)) (fun b => s3.2 (5400 + s3.1 (600 + 16 * k + i)) b && !(s3.2 (600 + 16 * k + i) b)) b))) 79 [(6, .int (vI b)), (5, .int (nI (5400 + s3.1 (600 + 16 * k + i)))), (4, .int (nI (600 + 16 * k + i))), (2, .int (nI k)), (1, .int (bI f2)), (0, .ref (a 0))] [] := by
                    intro n3
                    induction n3 with
                    | zero =>
                      intro b hb3
                      have hb : b = 49 := by omega
                      subst hb
                      refine z_iload (pc := 79) K d_M_spread_79 rfl ?_
                      refine z_bipush (pc := 81) K (v := 48) d_M_spread_81 (by decide) ?_
                      refine z_icmp_ge (pc := 83) K (tgt := 127) d_M_spread_83 (by decide) (fun c83 => ?_) (fun c83 => ?_)
                      · refine z_iconst (pc := 127) K (v := 1) d_M_spread_127 (by decide) ?_
                        refine z_eqi (y := bI true) rfl ?_
                        refine z_istore_n (pc := 128) K d_M_spread_128 rfl (by decide) rfl ?_
                        refine z_iinc (pc := 129) K (v := nI (k + 1)) d_M_spread_129 4 rfl (inc1 k) (by decide) rfl ?_
                        refine z_goto (pc := 132) K (tgt := 15) d_M_spread_132 (by decide) ?_
                        refine z_lv [0, 1, 5] rfl ?_
                        exact ih2 (k + 1) true (m_force s3 (600 + 16 * k + i)) (by omega) (fun t => hs3 t) (by rw [← hf2]; simp [m_spi, c31, c41, ei])
                      · exact absurd ((vI_le (k := 48) (by decide) (by omega)).mpr (by omega)) c83
                    | succ n3 ih3 =>
                      intro b hb3
                      refine z_iload (pc := 79) K d_M_spread_79 rfl ?_
                      refine z_bipush (pc := 81) K (v := 48) d_M_spread_81 (by decide) ?_
                      refine z_icmp_ge (pc := 83) K (tgt := 127) d_M_spread_83 (by decide) (fun c83 => ?_) (fun c83 => ?_)
                      · exact absurd ((vI_le (k := 48) (by decide) (by omega)).mp c83) (by omega)
                      · refine z_aload_n (pc := 86) K d_M_spread_86 rfl ?_
                        refine z_iload (pc := 87) K d_M_spread_87 rfl ?_
                        refine z_iload (pc := 89) K d_M_spread_89 rfl ?_
                        refine z_aload_n (pc := 91) K d_M_spread_91 rfl ?_
                        refine z_iload (pc := 92) K d_M_spread_92 rfl ?_
                        refine z_iload (pc := 94) K d_M_spread_94 rfl ?_
                        refine z_cVi (pc := 96) K 0 (m_isSaid_c _ (5400 + s3.1 (600 + 16 * k + i)) b (by omega) (by omega)) (cwA K 2 k576 k578 ks19 k7 k579 q_M_isSaid ⟨Nat.le_of_ble_eq_true rfl, Nat.le_of_ble_eq_true rfl⟩) d_M_spread_96 rfl rfl rfl rfl rfl (Nat.le_of_ble_eq_true rfl) ⟨Nat.le_of_ble_eq_true rfl, Nat.le_of_ble_eq_true rfl⟩ ?_
                        refine z_ifb_eq (pc := 99) K (tgt := 117) d_M_spread_99 (by decide) (fun c99 => ?_) (fun c99 => ?_)
                        · refine z_iconst (pc := 117) K (v := 0) d_M_spread_117 (by decide) ?_
                          refine z_eqi (y := bI false) rfl ?_
                          refine z_cVv (pc := 118) K 0 (m_tell_c _ (5400 + s3.1 (600 + 16 * k + i)) b _ (by omega) (by omega)) (cwA K 3 k548 k550 ks14 k7 k551 q_M_tell ⟨Nat.le_of_ble_eq_true rfl, Nat.le_of_ble_eq_true rfl⟩) d_M_spread_118 rfl rfl rfl rfl rfl (Nat.le_of_ble_eq_true rfl) ⟨Nat.le_of_ble_eq_true rfl, Nat.le_of_ble_eq_true rfl⟩ ?_
                          refine z_iinc (pc := 121) K (v := vI (b + 1)) d_M_spread_121 0 rfl (vI_inc b) (by decide) rfl ?_
                          refine z_goto (pc := 124) K (tgt := 79) d_M_spread_124 (by decide) ?_
                          refine z_lv [0, 1, 2, 3, 4, 5] rfl ?_
                          exact zW_cast (by rw [setU_s _ _ _ _ _ (by have c99 := (setU_at s3.2 (5400 + s3.1 (600 + 16 * k + i)) (fun b => s3.2 (5400 + s3.1 (600 + 16 * k + i)) b && !(s3.2 (600 + 16 * k + i) b)) b (5400 + s3.1 (600 + 16 * k + i))).symm.trans c99; simp [c99])]) (ih3 (b + 1) (by omega))
                        · refine z_aload_n (pc := 102) K d_M_spread_102 rfl ?_
                          refine z_iload (pc := 103) K d_M_spread_103 rfl ?_
                          refine z_iload (pc := 105) K d_M_spread_105 rfl ?_
                          refine z_cVi (pc := 107) K 0 (m_isSaid_c _ (600 + 16 * k + i) b (by omega) (by omega)) (cwA K 2 k576 k578 ks19 k7 k579 q_M_isSaid ⟨Nat.le_of_ble_eq_true rfl, Nat.le_of_ble_eq_true rfl⟩) d_M_spread_107 rfl rfl rfl rfl rfl (Nat.le_of_ble_eq_true rfl) ⟨Nat.le_of_ble_eq_true rfl, Nat.le_of_ble_eq_true rfl⟩ ?_
                          refine z_ifb_ne (pc := 110) K (tgt := 117) d_M_spread_110 (by decide) (fun c110 => ?_) (fun c110 => ?_)
                          · refine z_iconst (pc := 117) K (v := 0) d_M_spread_117 (by decide) ?_
                            refine z_eqi (y := bI false) rfl ?_
                            refine z_cVv (pc := 118) K 0 (m_tell_c _ (5400 + s3.1 (600 + 16 * k + i)) b _ (by omega) (by omega)) (cwA K 3 k548 k550 ks14 k7 k551 q_M_tell ⟨Nat.le_of_ble_eq_true rfl, Nat.le_of_ble_eq_true rfl⟩) d_M_spread_118 rfl rfl rfl rfl rfl (Nat.le_of_ble_eq_true rfl) ⟨Nat.le_of_ble_eq_true rfl, Nat.le_of_ble_eq_true rfl⟩ ?_
                            refine z_iinc (pc := 121) K (v := vI (b + 1)) d_M_spread_121 0 rfl (vI_inc b) (by decide) rfl ?_
                            refine z_goto (pc := 124) K (tgt := 79) d_M_spread_124 (by decide) ?_
                            refine z_lv [0, 1, 2, 3, 4, 5] rfl ?_
                            exact zW_cast (by rw [setU_s _ _ _ _ _ (by have c99 := (setU_at s3.2 (5400 + s3.1 (600 + 16 * k + i)) (fun b => s3.2 (5400 + s3.1 (600 + 16 * k + i)) b && !(s3.2 (600 + 16 * k + i) b)) b (5400 + s3.1 (600 + 16 * k + i))).symm.trans c99; have c110 := (setU_at s3.2 (5400 + s3.1 (600 + 16 * k + i)) (fun b => s3.2 (5400 + s3.1 (600 + 16 * k + i)) b && !(s3.2 (600 + 16 * k + i) b)) b (600 + 16 * k + i)).symm.trans c110; simp [c99, c110])]) (ih3 (b + 1) (by omega))
                          · refine z_iconst (pc := 113) K (v := 1) d_M_spread_113 (by decide) ?_
                            refine z_goto (pc := 114) K (tgt := 118) d_M_spread_114 (by decide) ?_
                            refine z_eqi (y := bI true) rfl ?_
                            refine z_cVv (pc := 118) K 0 (m_tell_c _ (5400 + s3.1 (600 + 16 * k + i)) b _ (by omega) (by omega)) (cwA K 3 k548 k550 ks14 k7 k551 q_M_tell ⟨Nat.le_of_ble_eq_true rfl, Nat.le_of_ble_eq_true rfl⟩) d_M_spread_118 rfl rfl rfl rfl rfl (Nat.le_of_ble_eq_true rfl) ⟨Nat.le_of_ble_eq_true rfl, Nat.le_of_ble_eq_true rfl⟩ ?_
                            refine z_iinc (pc := 121) K (v := vI (b + 1)) d_M_spread_121 0 rfl (vI_inc b) (by decide) rfl ?_
                            refine z_goto (pc := 124) K (tgt := 79) d_M_spread_124 (by decide) ?_
                            refine z_lv [0, 1, 2, 3, 4, 5] rfl ?_
                            exact zW_cast (by rw [setU_s _ _ _ _ _ (by have c99 := (setU_at s3.2 (5400 + s3.1 (600 + 16 * k + i)) (fun b => s3.2 (5400 + s3.1 (600 + 16 * k + i)) b && !(s3.2 (600 + 16 * k + i) b)) b (5400 + s3.1 (600 + 16 * k + i))).symm.trans c99; have c110 := (setU_at s3.2 (5400 + s3.1 (600 + 16 * k + i)) (fun b => s3.2 (5400 + s3.1 (600 + 16 * k + i)) b && !(s3.2 (600 + 16 * k + i) b)) b (600 + 16 * k + i)).symm.trans c110; simp [c99, c110])]) (ih3 (b + 1) (by omega))
                  refine z_lv [0, 1, 2, 4, 5, 6] rfl ?_
                  exact zW_cast (show _ = MW a cI cJ cZ (sL v (s3.1, setU s3.2 (5400 + s3.1 (600 + 16 * k + i)) (fun b => s3.2 (5400 + s3.1 (600 + 16 * k + i)) b && !(s3.2 (600 + 16 * k + i) b)) 0)) by rw [setU_0]) (L3 49 0 rfl)
                · refine z_goto (pc := 44) K (tgt := 129) d_M_spread_44 (by decide) ?_
                  refine z_iinc (pc := 129) K (v := nI (k + 1)) d_M_spread_129 1 rfl (inc1 k) (by decide) rfl ?_
                  refine z_goto (pc := 132) K (tgt := 15) d_M_spread_132 (by decide) ?_
                  refine z_lv [0, 2, 3] rfl ?_
                  exact ih2 (k + 1) _ _ (by omega) hs3 (by rw [← hf2]; simp [m_spi, c31, c41])
              · have hm3 : m_spi v (mB v) 0 false s2 = (some (m_fk (sL v s3)), f2, s3) := by rw [← hf2]; simp [m_spi, c31]
                have e9 : (m_fk (sL v s3), s3) = (r, s9) := by rw [m_spo, if_neg (by rw [c8]; decide), hm3] at hf; exact Option.some.inj hf
                refine z_aload_n (pc := 34) K d_M_spread_34 rfl ?_
                refine z_cVi (pc := 35) K 0 (m_firstKept_c (sL v s3) (mok_L hm hs3)) (cwA K 0 k728 k730 ks41 k7 k731 q_M_firstKept ⟨Nat.le_of_ble_eq_true rfl, Nat.le_of_ble_eq_true rfl⟩) d_M_spread_35 rfl rfl rfl rfl rfl (Nat.le_of_ble_eq_true rfl) ⟨Nat.le_of_ble_eq_true rfl, Nat.le_of_ble_eq_true rfl⟩ ?_
                exact z_reti (pc := 38) ret d_M_spread_38 (congrArg (fun q : Int32 × SLt => q.1) e9) (by rw [show s3 = s9 from congrArg (fun q : Int32 × SLt => q.2) e9])
        refine z_lv [0, 1, 2] rfl ?_
        exact LQ _ 0 false s2 (Nat.zero_add _) hs2 rfl
  refine z_lv [0, 1] rfl ?_
  exact LP N true (mL v) hmn hs
end CM
