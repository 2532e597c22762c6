section CM
variable {l : Launch} {D : va_G} {a : Nat → Nat} {cI cJ cC cZ : ClassId}
set_option maxRecDepth 100000 in
set_option maxHeartbeats 4000000 in
theorem m_addPart_c (v : MS) (t : Nat) (hm : mOk v) (ht : t < 5420) (hb : mB v < 300) (hp : mP v (mB v) < 16) : MV l D vwCl (CT cI cJ cC cZ) (MW a cI cJ cZ) y_M_addPart (wA y_M_addPart prog_8_method_29_code 3 none) { frames := 2, cells := 0, slots := 0, locals := 46 } [.ref (a 0), .int (nI t)] v (m_ap v t) := by
  refine MV.of (cc := prog_8_method_29_code) (nL := 3) (by decide) rfl (Nat.le_of_ble_eq_true rfl) ?_
  intro p e s m below meth c A Q K ret
  refine z_lvE (lv' := [(0, .ref (a 0)), (1, .int (nI t))]) rfl ?_
  obtain ⟨⟨hm1, hm2, hm3, hm4⟩, hmV, hmn, hmq, hmp⟩ := id hm
  have J90 : ∀ (i : Nat) (s2 : SLt), i ≤ mP v (mB v) → m_ins (600 + 16 * mB v) t (mP v (mB v)) (mL v) = (s2, i) → m_isFull (mV v) (mL v) t = false → zW p l e { frames := 2, cells := 0, slots := 0, locals := 46 } s m [.ref (a 0), .int (nI t)].toArray below meth c D vwCl A 3 0 0 Q (MW a cI cJ cZ (sL v s2)) 90 [(2, .int (nI i)), (0, .ref (a 0)), (1, .int (nI t))] [] := by
    intro i s2 hi hI hF
    refine z_aload_n (pc := 90) K d_M_addPart_90 rfl ?_
    refine z_sipush (pc := 91) K (v := 600) d_M_addPart_91 (by decide) ?_
    refine z_bipush (pc := 94) K (v := 16) d_M_addPart_94 (by decide) ?_
    refine z_aload_n (pc := 96) K d_M_addPart_96 rfl ?_
    refine z_get (pc := 97) K (ref := "DemandTermsModel") d_M_addPart_97 hi_M 0 rfl rfl 4 (by decide) k476 rfl rfl ?_
    refine z_imul (pc := 100) K d_M_addPart_100 ?_
    refine z_iadd (pc := 101) K d_M_addPart_101 ?_
    refine z_iload_n (pc := 102) K d_M_addPart_102 rfl ?_
    refine z_iadd (pc := 103) K d_M_addPart_103 ?_
    refine z_eqi (ix600 (mB v) i) ?_
    refine z_iload_n (pc := 104) K d_M_addPart_104 rfl ?_
    refine z_cVv (pc := 105) K 0 (m_copy_c _ (600 + 16 * mB v + i) t (by omega) ht) (cwA K 2 k652 k654 ks33 k7 k655 q_M_copy ⟨Nat.le_of_ble_eq_true rfl, Nat.le_of_ble_eq_true rfl⟩) d_M_addPart_105 rfl rfl rfl rfl rfl (Nat.le_of_ble_eq_true rfl) ⟨Nat.le_of_ble_eq_true rfl, Nat.le_of_ble_eq_true rfl⟩ ?_
    refine z_aload_n (pc := 108) K d_M_addPart_108 rfl ?_
    refine z_get (pc := 109) K (ref := "DemandTermsModel") d_M_addPart_109 hi_M 0 rfl rfl 8 (by decide) k480 rfl rfl ?_
    refine z_aload_n (pc := 112) K d_M_addPart_112 rfl ?_
    refine z_get (pc := 113) K (ref := "DemandTermsModel") d_M_addPart_113 hi_M 0 rfl rfl 4 (by decide) k476 rfl rfl ?_
    refine z_dup2 (pc := 116) K d_M_addPart_116 rfl rfl ?_
    refine z_iald (pc := 117) K d_M_addPart_117 4 0 rfl rfl (vp_in_nI hb (by decide)) ?_
    refine z_iconst (pc := 118) K (v := 1) d_M_addPart_118 (by decide) ?_
    refine z_iadd (pc := 119) K d_M_addPart_119 ?_
    refine z_eqi (y := nI (mP v (mB v) + 1)) (by rw [nI_clamp (show (mB v) < 2 ^ 31 by omega), nI_1]) ?_
    refine z_iast (pc := 120) K (ws' := (MW a cI cJ cZ (sP (sL v (m_copy s2 (600 + 16 * mB v + i) t)) (updN (mP v) (mB v) (mP v (mB v) + 1))))) d_M_addPart_120 4 0 rfl rfl (vp_in_nI hb (by decide)) (by rw [show (nI (mB (sL v (m_copy s2 (600 + 16 * mB v + i) t)))).toNatClampNeg = mB v from nI_clamp (show (mB v) < 2 ^ 31 by omega)]; exact congrArg (fun f => (MW a cI cJ cZ (sL v (m_copy s2 (600 + 16 * mB v + i) t))).set 4 (a 4, .inl (cI, 300, .inl f))) (w_nI (mP v) (mB v) (mP v (mB v) + 1))) ?_
    exact z_retv (pc := 121) ret d_M_addPart_121 (by rw [m_ap, if_neg (by rw [hF]; decide), m_apL, hI] <;> rfl)
  refine z_aload_n (pc := 0) K d_M_addPart_0 rfl ?_
  refine z_iload_n (pc := 1) K d_M_addPart_1 rfl ?_
  refine z_cVi (pc := 2) K 0 (m_isFull_c _ t ht (hmn t) (hmV _)) (cwA K 1 k648 k650 ks32 k7 k651 q_M_isFull ⟨Nat.le_of_ble_eq_true rfl, Nat.le_of_ble_eq_true rfl⟩) d_M_addPart_2 rfl rfl rfl rfl rfl (Nat.le_of_ble_eq_true rfl) ⟨Nat.le_of_ble_eq_true rfl, Nat.le_of_ble_eq_true rfl⟩ ?_
  refine z_ifb_eq (pc := 5) K (tgt := 9) d_M_addPart_5 (by decide) (fun c5 => ?_) (fun c5 => ?_)
  · refine z_aload_n (pc := 9) K d_M_addPart_9 rfl ?_
    refine z_get (pc := 10) K (ref := "DemandTermsModel") d_M_addPart_10 hi_M 0 rfl rfl 8 (by decide) k480 rfl rfl ?_
    refine z_aload_n (pc := 13) K d_M_addPart_13 rfl ?_
    refine z_get (pc := 14) K (ref := "DemandTermsModel") d_M_addPart_14 hi_M 0 rfl rfl 4 (by decide) k476 rfl rfl ?_
    refine z_iald (pc := 17) K d_M_addPart_17 4 0 rfl rfl (vp_in_nI hb (by decide)) ?_
    refine z_eqi (y := nI (mP v (mB v))) (by rw [nI_clamp (show (mB v) < 2 ^ 31 by omega)]) ?_
    refine z_istore_n (pc := 18) K d_M_addPart_18 rfl (by decide) rfl ?_
    have LP : ∀ (i : Nat) (s2 : SLt), i ≤ mP v (mB v) → (∀ t, s2.1 t < 16) → m_ins (600 + 16 * mB v) t i s2 = m_ins (600 + 16 * mB v) t (mP v (mB v)) (mL v) → zW p l e { frames := 2, cells := 0, slots := 0, locals := 46 } s m [.ref (a 0), .int (nI t)].toArray below meth c D vwCl A 3 0 0 Q (MW a cI cJ cZ (sL v s2)) 19 [(2, .int (nI i)), (0, .ref (a 0)), (1, .int (nI t))] [] := by
      intro i
      induction i with
      | zero =>
        intro s2 hi hs hf
        refine z_iload_n (pc := 19) K d_M_addPart_19 rfl ?_
        refine z_if_le (pc := 20) K (tgt := 90) d_M_addPart_20 (by decide) (fun c20 => ?_) (fun c20 => ?_)
        · refine z_lv [0, 1, 2] rfl ?_
          exact J90 _ _ (by omega) (by rw [← hf] <;> rfl) c5
        · exact absurd (by decide) c20
      | succ i ih =>
        intro s2 hi hs hf
        refine z_iload_n (pc := 19) K d_M_addPart_19 rfl ?_
        refine z_if_le (pc := 20) K (tgt := 90) d_M_addPart_20 (by decide) (fun c20 => ?_) (fun c20 => ?_)
        · exact absurd c20 (nI_nle (by omega) (by omega))
        · refine z_aload_n (pc := 23) K d_M_addPart_23 rfl ?_
          refine z_get (pc := 24) K (ref := "DemandTermsModel") d_M_addPart_24 hi_M 0 rfl rfl 6 (by decide) k478 rfl rfl ?_
          refine z_sipush (pc := 27) K (v := 600) d_M_addPart_27 (by decide) ?_
          refine z_bipush (pc := 30) K (v := 16) d_M_addPart_30 (by decide) ?_
          refine z_aload_n (pc := 32) K d_M_addPart_32 rfl ?_
          refine z_get (pc := 33) K (ref := "DemandTermsModel") d_M_addPart_33 hi_M 0 rfl rfl 4 (by decide) k476 rfl rfl ?_
          refine z_imul (pc := 36) K d_M_addPart_36 ?_
          refine z_iadd (pc := 37) K d_M_addPart_37 ?_
          refine z_iload_n (pc := 38) K d_M_addPart_38 rfl ?_
          refine z_iadd (pc := 39) K d_M_addPart_39 ?_
          refine z_iconst (pc := 40) K (v := 1) d_M_addPart_40 (by decide) ?_
          refine z_isub (pc := 41) K d_M_addPart_41 ?_
          refine z_eqi (ix600m (mB v) i) ?_
          refine z_iald (pc := 42) K d_M_addPart_42 2 0 rfl rfl (vp_in_nI (by omega) (by decide)) ?_
          refine z_eqi (y := nI (s2.1 (600 + 16 * mB v + i))) (by rw [nI_clamp (show 600 + 16 * mB v + i < 2 ^ 31 by omega)] <;> rfl) ?_
          refine z_aload_n (pc := 43) K d_M_addPart_43 rfl ?_
          refine z_get (pc := 44) K (ref := "DemandTermsModel") d_M_addPart_44 hi_M 0 rfl rfl 6 (by decide) k478 rfl rfl ?_
          refine z_iload_n (pc := 47) K d_M_addPart_47 rfl ?_
          refine z_iald (pc := 48) K d_M_addPart_48 2 0 rfl rfl (vp_in_nI ht (by decide)) ?_
          refine z_eqi (y := nI (s2.1 t)) (by rw [nI_clamp (show t < 2 ^ 31 by omega)] <;> rfl) ?_
          refine z_icmp_le (pc := 49) K (tgt := 90) d_M_addPart_49 (by decide) (fun c49 => ?_) (fun c49 => ?_)
          · refine z_lv [0, 1, 2] rfl ?_
            exact J90 _ _ (by omega) (by rw [← hf, m_ins, if_pos c49] <;> rfl) c5
          · refine z_aload_n (pc := 52) K d_M_addPart_52 rfl ?_
            refine z_sipush (pc := 53) K (v := 600) d_M_addPart_53 (by decide) ?_
            refine z_bipush (pc := 56) K (v := 16) d_M_addPart_56 (by decide) ?_
            refine z_aload_n (pc := 58) K d_M_addPart_58 rfl ?_
            refine z_get (pc := 59) K (ref := "DemandTermsModel") d_M_addPart_59 hi_M 0 rfl rfl 4 (by decide) k476 rfl rfl ?_
            refine z_imul (pc := 62) K d_M_addPart_62 ?_
            refine z_iadd (pc := 63) K d_M_addPart_63 ?_
            refine z_iload_n (pc := 64) K d_M_addPart_64 rfl ?_
            refine z_iadd (pc := 65) K d_M_addPart_65 ?_
            refine z_eqi (ix600 (mB v) (i + 1)) ?_
            refine z_sipush (pc := 66) K (v := 600) d_M_addPart_66 (by decide) ?_
            refine z_bipush (pc := 69) K (v := 16) d_M_addPart_69 (by decide) ?_
            refine z_aload_n (pc := 71) K d_M_addPart_71 rfl ?_
            refine z_get (pc := 72) K (ref := "DemandTermsModel") d_M_addPart_72 hi_M 0 rfl rfl 4 (by decide) k476 rfl rfl ?_
            refine z_imul (pc := 75) K d_M_addPart_75 ?_
            refine z_iadd (pc := 76) K d_M_addPart_76 ?_
            refine z_iload_n (pc := 77) K d_M_addPart_77 rfl ?_
            refine z_iadd (pc := 78) K d_M_addPart_78 ?_
            refine z_iconst (pc := 79) K (v := 1) d_M_addPart_79 (by decide) ?_
            refine z_isub (pc := 80) K d_M_addPart_80 ?_
            refine z_eqi (ix600m (mB v) i) ?_
            refine z_cVv (pc := 81) K 0 (m_copy_c _ (600 + 16 * mB v + (i + 1)) (600 + 16 * mB v + i) (by omega) (by omega)) (cwA K 2 k652 k654 ks33 k7 k655 q_M_copy ⟨Nat.le_of_ble_eq_true rfl, Nat.le_of_ble_eq_true rfl⟩) d_M_addPart_81 rfl rfl rfl rfl rfl (Nat.le_of_ble_eq_true rfl) ⟨Nat.le_of_ble_eq_true rfl, Nat.le_of_ble_eq_true rfl⟩ ?_
            refine z_iinc (pc := 84) K (v := nI i) d_M_addPart_84 0 rfl (dec1 i) (by decide) rfl ?_
            refine z_goto (pc := 87) K (tgt := 19) d_M_addPart_87 (by decide) ?_
            refine z_lv [0, 1, 2] rfl ?_
            exact ih _ (by omega) (copy_nm hs) (by rw [← hf, m_ins, if_neg c49])
    refine z_lv [0, 1, 2] rfl ?_
    exact LP _ (mL v) (Nat.le_refl _) hmn rfl
  · exact z_retv (pc := 8) ret d_M_addPart_8 (by rw [m_ap, if_pos c5])
set_option maxRecDepth 100000 in
set_option maxHeartbeats 4000000 in
theorem m_deriveRow_c (v : MS) (k : Nat) (hm : mOk v) (hk : k < 400) (hb : mB v < 300) : MV l D vwCl (CT cI cJ cC cZ) (MW a cI cJ cZ) y_M_deriveRow (wA y_M_deriveRow prog_8_method_31_code 4 none) { frames := 3, cells := 0, slots := 0, locals := 68 } [.ref (a 0), .int (nI k)] v (m_dr v k) := by
  refine MV.of (cc := prog_8_method_31_code) (nL := 4) (by decide) rfl (Nat.le_of_ble_eq_true rfl) ?_
  intro p e s m below meth c A Q K ret
  refine z_lvE (lv' := [(0, .ref (a 0)), (1, .int (nI k))]) rfl ?_
  obtain ⟨⟨hm1, hm2, hm3, hm4⟩, hmV, hmn, hmq, hmp⟩ := id hm
  obtain ⟨hq1, hq2, hq3⟩ := hmq k
  have J56 : ∀ (_ : True), zW p l e { frames := 3, cells := 0, slots := 0, locals := 68 } s m [.ref (a 0), .int (nI k)].toArray below meth c D vwCl A 4 0 0 Q (MW a cI cJ cZ (m_begin v)) 56 [(3, .int (nI (m_lst v k (48 - (qV (mQ v) k)) (qV (mQ v) k)))), (2, .int (nI (m_fst v k (qV (mQ v) k)))), (0, .ref (a 0)), (1, .int (nI k))] [] := by
    intro _
    refine z_aload_n (pc := 56) K d_M_deriveRow_56 rfl ?_
    refine z_get (pc := 57) K (ref := "DemandTermsModel") d_M_deriveRow_57 hi_M 0 rfl rfl 9 (by decide) k481 rfl rfl ?_
    refine z_aload_n (pc := 60) K d_M_deriveRow_60 rfl ?_
    refine z_get (pc := 61) K (ref := "DemandTermsModel") d_M_deriveRow_61 hi_M 0 rfl rfl 4 (by decide) k476 rfl rfl ?_
    refine z_aload_n (pc := 64) K d_M_deriveRow_64 rfl ?_
    refine z_get (pc := 65) K (ref := "DemandTermsModel") d_M_deriveRow_65 hi_M 0 rfl rfl 15 (by decide) k487 rfl rfl ?_
    refine z_iload_n (pc := 68) K d_M_deriveRow_68 rfl ?_
    refine z_iald (pc := 69) K d_M_deriveRow_69 11 0 rfl rfl (vp_in_nI hk (by decide)) ?_
    refine z_eqi (y := nI (qN (mQ v) k)) (by rw [nI_clamp (show k < 2 ^ 31 by omega)] <;> rfl) ?_
    refine z_iast (pc := 70) K (ws' := (MW a cI cJ cZ (sE (m_begin v) (upd (dN (mE (m_begin v))) (mB v) (nI (qN (mQ v) k)), dF (mE v), dL (mE v), dO (mE v), dK (mE v), dS (mE v))))) d_M_deriveRow_70 5 0 rfl rfl (vp_in_nI hb (by decide)) (by rw [show (nI (mB (m_begin v))).toNatClampNeg = mB v from nI_clamp (show (mB v) < 2 ^ 31 by omega)]; rfl) ?_
    refine z_aload_n (pc := 71) K d_M_deriveRow_71 rfl ?_
    refine z_get (pc := 72) K (ref := "DemandTermsModel") d_M_deriveRow_72 hi_M 0 rfl rfl 10 (by decide) k482 rfl rfl ?_
    refine z_aload_n (pc := 75) K d_M_deriveRow_75 rfl ?_
    refine z_get (pc := 76) K (ref := "DemandTermsModel") d_M_deriveRow_76 hi_M 0 rfl rfl 4 (by decide) k476 rfl rfl ?_
    refine z_iload_n (pc := 79) K d_M_deriveRow_79 rfl ?_
    refine z_iast (pc := 80) K (ws' := (MW a cI cJ cZ (sE (m_begin v) (upd (dN (mE (m_begin v))) (mB v) (nI (qN (mQ v) k)), updN (dF (mE v)) (mB v) (m_fst v k (qV (mQ v) k)), dL (mE v), dO (mE v), dK (mE v), dS (mE v))))) d_M_deriveRow_80 6 0 rfl rfl (vp_in_nI hb (by decide)) (by rw [show (nI (mB (sE (m_begin v) (upd (dN (mE (m_begin v))) (mB v) (nI (qN (mQ v) k)), dF (mE v), dL (mE v), dO (mE v), dK (mE v), dS (mE v))))).toNatClampNeg = mB v from nI_clamp (show (mB v) < 2 ^ 31 by omega), w_nI]; rfl) ?_
    refine z_aload_n (pc := 81) K d_M_deriveRow_81 rfl ?_
    refine z_get (pc := 82) K (ref := "DemandTermsModel") d_M_deriveRow_82 hi_M 0 rfl rfl 11 (by decide) k483 rfl rfl ?_
    refine z_aload_n (pc := 85) K d_M_deriveRow_85 rfl ?_
    refine z_get (pc := 86) K (ref := "DemandTermsModel") d_M_deriveRow_86 hi_M 0 rfl rfl 4 (by decide) k476 rfl rfl ?_
    refine z_iload_n (pc := 89) K d_M_deriveRow_89 rfl ?_
    refine z_iast (pc := 90) K (ws' := (MW a cI cJ cZ (sE (m_begin v) (upd (dN (mE (m_begin v))) (mB v) (nI (qN (mQ v) k)), updN (dF (mE v)) (mB v) (m_fst v k (qV (mQ v) k)), updN (dL (mE v)) (mB v) (m_lst v k (48 - (qV (mQ v) k)) (qV (mQ v) k)), dO (mE v), dK (mE v), dS (mE v))))) d_M_deriveRow_90 7 0 rfl rfl (vp_in_nI hb (by decide)) (by rw [show (nI (mB (sE (m_begin v) (upd (dN (mE (m_begin v))) (mB v) (nI (qN (mQ v) k)), updN (dF (mE v)) (mB v) (m_fst v k (qV (mQ v) k)), dL (mE v), dO (mE v), dK (mE v), dS (mE v))))).toNatClampNeg = mB v from nI_clamp (show (mB v) < 2 ^ 31 by omega), w_nI]; rfl) ?_
    refine z_aload_n (pc := 91) K d_M_deriveRow_91 rfl ?_
    refine z_get (pc := 92) K (ref := "DemandTermsModel") d_M_deriveRow_92 hi_M 0 rfl rfl 12 (by decide) k484 rfl rfl ?_
    refine z_aload_n (pc := 95) K d_M_deriveRow_95 rfl ?_
    refine z_get (pc := 96) K (ref := "DemandTermsModel") d_M_deriveRow_96 hi_M 0 rfl rfl 4 (by decide) k476 rfl rfl ?_
    refine z_aload_n (pc := 99) K d_M_deriveRow_99 rfl ?_
    refine z_get (pc := 100) K (ref := "DemandTermsModel") d_M_deriveRow_100 hi_M 0 rfl rfl 17 (by decide) k489 rfl rfl ?_
    refine z_iload_n (pc := 103) K d_M_deriveRow_103 rfl ?_
    refine z_iald (pc := 104) K d_M_deriveRow_104 13 0 rfl rfl (vp_in_nI hk (by decide)) ?_
    refine z_eqi (y := nI (qO (mQ v) k)) (by rw [nI_clamp (show k < 2 ^ 31 by omega)] <;> rfl) ?_
    refine z_iast (pc := 105) K (ws' := (MW a cI cJ cZ (sE (m_begin v) (upd (dN (mE (m_begin v))) (mB v) (nI (qN (mQ v) k)), updN (dF (mE v)) (mB v) (m_fst v k (qV (mQ v) k)), updN (dL (mE v)) (mB v) (m_lst v k (48 - (qV (mQ v) k)) (qV (mQ v) k)), upd (dO (mE v)) (mB v) (nI (qO (mQ v) k)), dK (mE v), dS (mE v))))) d_M_deriveRow_105 8 0 rfl rfl (vp_in_nI hb (by decide)) (by rw [show (nI (mB (sE (m_begin v) (upd (dN (mE (m_begin v))) (mB v) (nI (qN (mQ v) k)), updN (dF (mE v)) (mB v) (m_fst v k (qV (mQ v) k)), updN (dL (mE v)) (mB v) (m_lst v k (48 - (qV (mQ v) k)) (qV (mQ v) k)), dO (mE v), dK (mE v), dS (mE v))))).toNatClampNeg = mB v from nI_clamp (show (mB v) < 2 ^ 31 by omega)]; rfl) ?_
    refine z_aload_n (pc := 106) K d_M_deriveRow_106 rfl ?_
    refine z_get (pc := 107) K (ref := "DemandTermsModel") d_M_deriveRow_107 hi_M 0 rfl rfl 14 (by decide) k486 rfl rfl ?_
    refine z_aload_n (pc := 110) K d_M_deriveRow_110 rfl ?_
    refine z_get (pc := 111) K (ref := "DemandTermsModel") d_M_deriveRow_111 hi_M 0 rfl rfl 4 (by decide) k476 rfl rfl ?_
    refine z_aload_n (pc := 114) K d_M_deriveRow_114 rfl ?_
    refine z_get (pc := 115) K (ref := "DemandTermsModel") d_M_deriveRow_115 hi_M 0 rfl rfl 19 (by decide) k491 rfl rfl ?_
    refine z_iload_n (pc := 118) K d_M_deriveRow_118 rfl ?_
    refine z_lald (pc := 119) K d_M_deriveRow_119 15 1 rfl rfl (vp_in_nI hk (by decide)) ?_
    refine z_eql (y := qS (mQ v) k) (by rw [nI_clamp (show k < 2 ^ 31 by omega)] <;> rfl) ?_
    refine z_last (pc := 120) K (ws' := (MW a cI cJ cZ (sE (m_begin v) (upd (dN (mE (m_begin v))) (mB v) (nI (qN (mQ v) k)), updN (dF (mE v)) (mB v) (m_fst v k (qV (mQ v) k)), updN (dL (mE v)) (mB v) (m_lst v k (48 - (qV (mQ v) k)) (qV (mQ v) k)), upd (dO (mE v)) (mB v) (nI (qO (mQ v) k)), dK (mE v), vp_updL (dS (mE v)) (mB v) (qS (mQ v) k))))) d_M_deriveRow_120 10 1 rfl rfl (vp_in_nI hb (by decide)) (by rw [show (nI (mB (sE (m_begin v) (upd (dN (mE (m_begin v))) (mB v) (nI (qN (mQ v) k)), updN (dF (mE v)) (mB v) (m_fst v k (qV (mQ v) k)), updN (dL (mE v)) (mB v) (m_lst v k (48 - (qV (mQ v) k)) (qV (mQ v) k)), upd (dO (mE v)) (mB v) (nI (qO (mQ v) k)), dK (mE v), dS (mE v))))).toNatClampNeg = mB v from nI_clamp (show (mB v) < 2 ^ 31 by omega)]; rfl) ?_
    refine z_aload_n (pc := 121) K d_M_deriveRow_121 rfl ?_
    refine z_get (pc := 122) K (ref := "DemandTermsModel") d_M_deriveRow_122 hi_M 0 rfl rfl 13 (by decide) k485 rfl rfl ?_
    refine z_aload_n (pc := 125) K d_M_deriveRow_125 rfl ?_
    refine z_get (pc := 126) K (ref := "DemandTermsModel") d_M_deriveRow_126 hi_M 0 rfl rfl 4 (by decide) k476 rfl rfl ?_
    refine z_aload_n (pc := 129) K d_M_deriveRow_129 rfl ?_
    refine z_get (pc := 130) K (ref := "DemandTermsModel") d_M_deriveRow_130 hi_M 0 rfl rfl 18 (by decide) k490 rfl rfl ?_
    refine z_iload_n (pc := 133) K d_M_deriveRow_133 rfl ?_
    refine z_iald (pc := 134) K d_M_deriveRow_134 14 0 rfl rfl (vp_in_nI hk (by decide)) ?_
    refine z_eqi (y := qK (mQ v) k) (by rw [nI_clamp (show k < 2 ^ 31 by omega)] <;> rfl) ?_
    refine z_iast (pc := 135) K (ws' := (MW a cI cJ cZ (sE (m_begin v) (upd (dN (mE (m_begin v))) (mB v) (nI (qN (mQ v) k)), updN (dF (mE v)) (mB v) (m_fst v k (qV (mQ v) k)), updN (dL (mE v)) (mB v) (m_lst v k (48 - (qV (mQ v) k)) (qV (mQ v) k)), upd (dO (mE v)) (mB v) (nI (qO (mQ v) k)), upd (dK (mE v)) (mB v) (qK (mQ v) k), vp_updL (dS (mE v)) (mB v) (qS (mQ v) k))))) d_M_deriveRow_135 9 0 rfl rfl (vp_in_nI hb (by decide)) (by rw [show (nI (mB (sE (m_begin v) (upd (dN (mE (m_begin v))) (mB v) (nI (qN (mQ v) k)), updN (dF (mE v)) (mB v) (m_fst v k (qV (mQ v) k)), updN (dL (mE v)) (mB v) (m_lst v k (48 - (qV (mQ v) k)) (qV (mQ v) k)), upd (dO (mE v)) (mB v) (nI (qO (mQ v) k)), dK (mE v), vp_updL (dS (mE v)) (mB v) (qS (mQ v) k))))).toNatClampNeg = mB v from nI_clamp (show (mB v) < 2 ^ 31 by omega)]; rfl) ?_
    refine z_aload_n (pc := 136) K d_M_deriveRow_136 rfl ?_
    refine z_sipush (pc := 137) K (v := 5416) d_M_deriveRow_137 (by decide) ?_
    refine z_aload_n (pc := 140) K d_M_deriveRow_140 rfl ?_
    refine z_get (pc := 141) K (ref := "DemandTermsModel") d_M_deriveRow_141 hi_M 0 rfl rfl 15 (by decide) k487 rfl rfl ?_
    refine z_iload_n (pc := 144) K d_M_deriveRow_144 rfl ?_
    refine z_iald (pc := 145) K d_M_deriveRow_145 11 0 rfl rfl (vp_in_nI hk (by decide)) ?_
    refine z_eqi (y := nI (qN (mQ v) k)) (by rw [nI_clamp (show k < 2 ^ 31 by omega)] <;> rfl) ?_
    refine z_lconst (pc := 146) K (v := 1) d_M_deriveRow_146 (by decide) ?_
    refine z_iload_n (pc := 147) K d_M_deriveRow_147 rfl ?_
    refine z_iconst (pc := 148) K (v := 1) d_M_deriveRow_148 (by decide) ?_
    refine z_iadd (pc := 149) K d_M_deriveRow_149 ?_
    refine z_lshl (pc := 150) K d_M_deriveRow_150 ?_
    refine z_lconst (pc := 151) K (v := 1) d_M_deriveRow_151 (by decide) ?_
    refine z_iload_n (pc := 152) K d_M_deriveRow_152 rfl ?_
    refine z_lshl (pc := 153) K d_M_deriveRow_153 ?_
    refine z_lsub (pc := 154) K d_M_deriveRow_154 ?_
    refine z_iconst (pc := 155) K (v := 1) d_M_deriveRow_155 (by decide) ?_
    refine z_eqi (y := bI true) rfl ?_
    refine z_cVv (pc := 156) K 0 (m_make_c (m_dr1 v k) 5416 (qN (mQ v) k) (m_runS (m_fst v k (qV (mQ v) k)) (m_lst v k (48 - (qV (mQ v) k)) (qV (mQ v) k))) true (by decide) hq1 (hmV _)) (cwA K 4 k560 k562 ks16 k7 k563 q_M_make ⟨Nat.le_of_ble_eq_true rfl, Nat.le_of_ble_eq_true rfl⟩) d_M_deriveRow_156 rfl rfl rfl rfl rfl (Nat.le_of_ble_eq_true rfl) ⟨Nat.le_of_ble_eq_true rfl, Nat.le_of_ble_eq_true rfl⟩ ?_
    refine z_ws (ws' := (MW a cI cJ cZ (m_mkW (m_dr1 v k) (qN (mQ v) k) (m_runS (m_fst v k (qV (mQ v) k)) (m_lst v k (48 - (qV (mQ v) k)) (qV (mQ v) k))) true))) rfl ?_
    refine z_aload_n (pc := 159) K d_M_deriveRow_159 rfl ?_
    refine z_sipush (pc := 160) K (v := 5416) d_M_deriveRow_160 (by decide) ?_
    refine z_cVv (pc := 163) K 0 (m_addPart_c (m_mkW (m_dr1 v k) (qN (mQ v) k) (m_runS (m_fst v k (qV (mQ v) k)) (m_lst v k (48 - (qV (mQ v) k)) (qV (mQ v) k))) true) 5416 (mok_mkW (dr1_ok hm) hq1) (by decide) hb (by show mP (m_dr1 v k) (mB v) < 16; rw [dr1_P]; decide)) (cwA K 1 k644 k646 ks31 k7 k647 q_M_addPart ⟨Nat.le_of_ble_eq_true rfl, Nat.le_of_ble_eq_true rfl⟩) d_M_deriveRow_163 rfl rfl rfl rfl rfl (Nat.le_of_ble_eq_true rfl) ⟨Nat.le_of_ble_eq_true rfl, Nat.le_of_ble_eq_true rfl⟩ ?_
    refine z_ws (ws' := (MW a cI cJ cZ (m_dr2 v k))) rfl ?_
    refine z_aload_n (pc := 166) K d_M_deriveRow_166 rfl ?_
    refine z_sipush (pc := 167) K (v := 5416) d_M_deriveRow_167 (by decide) ?_
    refine z_aload_n (pc := 170) K d_M_deriveRow_170 rfl ?_
    refine z_get (pc := 171) K (ref := "DemandTermsModel") d_M_deriveRow_171 hi_M 0 rfl rfl 17 (by decide) k489 rfl rfl ?_
    refine z_iload_n (pc := 174) K d_M_deriveRow_174 rfl ?_
    refine z_iald (pc := 175) K d_M_deriveRow_175 13 0 rfl rfl (vp_in_nI hk (by decide)) ?_
    refine z_eqi (y := nI (qO (mQ v) k)) (by rw [dr2_Q, nI_clamp (show k < 2 ^ 31 by omega)]) ?_
    refine z_aload_n (pc := 176) K d_M_deriveRow_176 rfl ?_
    refine z_get (pc := 177) K (ref := "DemandTermsModel") d_M_deriveRow_177 hi_M 0 rfl rfl 19 (by decide) k491 rfl rfl ?_
    refine z_iload_n (pc := 180) K d_M_deriveRow_180 rfl ?_
    refine z_lald (pc := 181) K d_M_deriveRow_181 15 1 rfl rfl (vp_in_nI hk (by decide)) ?_
    refine z_eql (y := qS (mQ v) k) (by rw [dr2_Q, nI_clamp (show k < 2 ^ 31 by omega)]) ?_
    refine z_iconst (pc := 182) K (v := 0) d_M_deriveRow_182 (by decide) ?_
    refine z_eqi (y := bI false) rfl ?_
    refine z_cVv (pc := 183) K 0 (m_make_c (m_dr2 v k) 5416 (qO (mQ v) k) (qS (mQ v) k) false (by decide) hq3 (by rw [dr2_V]; exact hmV _)) (cwA K 4 k560 k562 ks16 k7 k563 q_M_make ⟨Nat.le_of_ble_eq_true rfl, Nat.le_of_ble_eq_true rfl⟩) d_M_deriveRow_183 rfl rfl rfl rfl rfl (Nat.le_of_ble_eq_true rfl) ⟨Nat.le_of_ble_eq_true rfl, Nat.le_of_ble_eq_true rfl⟩ ?_
    refine z_ws (ws' := (MW a cI cJ cZ (m_mkW (m_dr2 v k) (qO (mQ v) k) (qS (mQ v) k) false))) rfl ?_
    refine z_aload_n (pc := 186) K d_M_deriveRow_186 rfl ?_
    refine z_sipush (pc := 187) K (v := 5416) d_M_deriveRow_187 (by decide) ?_
    refine z_cVv (pc := 190) K 0 (m_addPart_c (m_mkW (m_dr2 v k) (qO (mQ v) k) (qS (mQ v) k) false) 5416 (mok_mkW (dr2_ok hm) hq3) (by decide) (show mB (m_dr2 v k) < 300 by rw [dr2_B]; exact hb) (show mP (m_dr2 v k) (mB (m_dr2 v k)) < 16 by rw [dr2_B]; have := dr2_P v k; omega)) (cwA K 1 k644 k646 ks31 k7 k647 q_M_addPart ⟨Nat.le_of_ble_eq_true rfl, Nat.le_of_ble_eq_true rfl⟩) d_M_deriveRow_190 rfl rfl rfl rfl rfl (Nat.le_of_ble_eq_true rfl) ⟨Nat.le_of_ble_eq_true rfl, Nat.le_of_ble_eq_true rfl⟩ ?_
    refine z_ws (ws' := (MW a cI cJ cZ (m_dr3 v k))) rfl ?_
    refine z_aload_n (pc := 193) K d_M_deriveRow_193 rfl ?_
    refine z_dup (pc := 194) K d_M_deriveRow_194 rfl ?_
    refine z_get (pc := 195) K (ref := "DemandTermsModel") d_M_deriveRow_195 hi_M 0 rfl rfl 4 (by decide) k476 rfl rfl ?_
    refine z_iconst (pc := 198) K (v := 1) d_M_deriveRow_198 (by decide) ?_
    refine z_iadd (pc := 199) K d_M_deriveRow_199 ?_
    refine z_eqi (nI_1 _) ?_
    refine z_put (pc := 200) K (ref := "DemandTermsModel") (ws' := (MW a cI cJ cZ (addBar (m_dr3 v k)))) d_M_deriveRow_200 hi_M ty_M ty_M_ok nm_M 0 rfl rfl 4 (by decide) k476 rfl rfl rfl rfl rfl (Nat.le_of_ble_eq_true rfl) rfl ?_
    exact z_retv (pc := 203) ret d_M_deriveRow_203 rfl
  have J39 : ∀ (_ : True), zW p l e { frames := 3, cells := 0, slots := 0, locals := 68 } s m [.ref (a 0), .int (nI k)].toArray below meth c D vwCl A 4 0 0 Q (MW a cI cJ cZ (m_begin v)) 39 [(3, .int (nI (qV (mQ v) k))), (2, .int (nI (m_fst v k (qV (mQ v) k)))), (0, .ref (a 0)), (1, .int (nI k))] [] := by
    intro _
    have LQ : ∀ (n i : Nat), i + n = 48 → m_lst v k n i = (m_lst v k (48 - (qV (mQ v) k)) (qV (mQ v) k)) → zW p l e { frames := 3, cells := 0, slots := 0, locals := 68 } s m [.ref (a 0), .int (nI k)].toArray below meth c D vwCl A 4 0 0 Q (MW a cI cJ cZ (m_begin v)) 39 [(3, .int (nI i)), (2, .int (nI (m_fst v k (qV (mQ v) k)))), (0, .ref (a 0)), (1, .int (nI k))] [] := by
      intro n
      induction n with
      | zero =>
        intro i hi hf
        refine z_aload_n (pc := 39) K d_M_deriveRow_39 rfl ?_
        refine z_iload_n (pc := 40) K d_M_deriveRow_40 rfl ?_
        refine z_iconst (pc := 41) K (v := 1) d_M_deriveRow_41 (by decide) ?_
        refine z_iadd (pc := 42) K d_M_deriveRow_42 ?_
        refine z_eqi (nI_1 _) ?_
        refine z_iload_n (pc := 43) K d_M_deriveRow_43 rfl ?_
        refine z_cVi (pc := 44) K 0 (m_has_c (m_begin v) (i + 1) k hm4 hk) (cwA K 2 k636 k638 ks29 k7 k639 q_M_has ⟨Nat.le_of_ble_eq_true rfl, Nat.le_of_ble_eq_true rfl⟩) d_M_deriveRow_44 rfl rfl rfl rfl rfl (Nat.le_of_ble_eq_true rfl) ⟨Nat.le_of_ble_eq_true rfl, Nat.le_of_ble_eq_true rfl⟩ ?_
        refine z_ifb_eq (pc := 47) K (tgt := 56) d_M_deriveRow_47 (by decide) (fun c47 => ?_) (fun c47 => ?_)
        · refine z_lv [0, 1, 2, 3] rfl ?_
          exact zW_lv (by rw [← hf] <;> rfl) (J56 trivial)
        · exact absurd (has_lt hm (by omega) c47) (by omega)
      | succ n ih =>
        intro i hi hf
        refine z_aload_n (pc := 39) K d_M_deriveRow_39 rfl ?_
        refine z_iload_n (pc := 40) K d_M_deriveRow_40 rfl ?_
        refine z_iconst (pc := 41) K (v := 1) d_M_deriveRow_41 (by decide) ?_
        refine z_iadd (pc := 42) K d_M_deriveRow_42 ?_
        refine z_eqi (nI_1 _) ?_
        refine z_iload_n (pc := 43) K d_M_deriveRow_43 rfl ?_
        refine z_cVi (pc := 44) K 0 (m_has_c (m_begin v) (i + 1) k hm4 hk) (cwA K 2 k636 k638 ks29 k7 k639 q_M_has ⟨Nat.le_of_ble_eq_true rfl, Nat.le_of_ble_eq_true rfl⟩) d_M_deriveRow_44 rfl rfl rfl rfl rfl (Nat.le_of_ble_eq_true rfl) ⟨Nat.le_of_ble_eq_true rfl, Nat.le_of_ble_eq_true rfl⟩ ?_
        refine z_ifb_eq (pc := 47) K (tgt := 56) d_M_deriveRow_47 (by decide) (fun c47 => ?_) (fun c47 => ?_)
        · refine z_lv [0, 1, 2, 3] rfl ?_
          exact zW_lv (by rw [← hf, m_lst, if_neg (by rw [show m_has v (i + 1) k = false from c47]; decide)] <;> rfl) (J56 trivial)
        · refine z_iinc (pc := 50) K (v := nI (i + 1)) d_M_deriveRow_50 0 rfl (inc1 i) (by decide) rfl ?_
          refine z_goto (pc := 53) K (tgt := 39) d_M_deriveRow_53 (by decide) ?_
          refine z_lv [0, 1, 2, 3] rfl ?_
          exact ih (i + 1) (by omega) (by rw [← hf, m_lst, if_pos (show m_has v (i + 1) k = true from c47)])
    refine z_lv [0, 1, 2, 3] rfl ?_
    exact LQ (48 - (qV (mQ v) k)) (qV (mQ v) k) (by omega) rfl
  refine z_aload_n (pc := 0) K d_M_deriveRow_0 rfl ?_
  refine z_cVv (pc := 1) K 0 (m_begin_c v hb) (cwA K 0 k632 k634 ks28 k7 k635 q_M_begin ⟨Nat.le_of_ble_eq_true rfl, Nat.le_of_ble_eq_true rfl⟩) d_M_deriveRow_1 rfl rfl rfl rfl rfl (Nat.le_of_ble_eq_true rfl) ⟨Nat.le_of_ble_eq_true rfl, Nat.le_of_ble_eq_true rfl⟩ ?_
  refine z_aload_n (pc := 4) K d_M_deriveRow_4 rfl ?_
  refine z_get (pc := 5) K (ref := "DemandTermsModel") d_M_deriveRow_5 hi_M 0 rfl rfl 16 (by decide) k488 rfl rfl ?_
  refine z_iload_n (pc := 8) K d_M_deriveRow_8 rfl ?_
  refine z_iald (pc := 9) K d_M_deriveRow_9 12 0 rfl rfl (vp_in_nI hk (by decide)) ?_
  refine z_eqi (y := nI (qV (mQ v) k)) (by rw [nI_clamp (show k < 2 ^ 31 by omega)] <;> rfl) ?_
  refine z_istore_n (pc := 10) K d_M_deriveRow_10 rfl (by decide) rfl ?_
  refine z_aload_n (pc := 11) K d_M_deriveRow_11 rfl ?_
  refine z_get (pc := 12) K (ref := "DemandTermsModel") d_M_deriveRow_12 hi_M 0 rfl rfl 16 (by decide) k488 rfl rfl ?_
  refine z_iload_n (pc := 15) K d_M_deriveRow_15 rfl ?_
  refine z_iald (pc := 16) K d_M_deriveRow_16 12 0 rfl rfl (vp_in_nI hk (by decide)) ?_
  refine z_eqi (y := nI (qV (mQ v) k)) (by rw [nI_clamp (show k < 2 ^ 31 by omega)] <;> rfl) ?_
  refine z_istore_n (pc := 17) K d_M_deriveRow_17 rfl (by decide) rfl ?_
  have LP : ∀ (f : Nat), f ≤ (qV (mQ v) k) → m_fst v k f = (m_fst v k (qV (mQ v) k)) → zW p l e { frames := 3, cells := 0, slots := 0, locals := 68 } s m [.ref (a 0), .int (nI k)].toArray below meth c D vwCl A 4 0 0 Q (MW a cI cJ cZ (m_begin v)) 18 [(2, .int (nI f)), (3, .int (nI (qV (mQ v) k))), (0, .ref (a 0)), (1, .int (nI k))] [] := by
    intro f
    induction f with
    | zero =>
      intro hi hf
      refine z_iload_n (pc := 18) K d_M_deriveRow_18 rfl ?_
      refine z_if_le (pc := 19) K (tgt := 39) d_M_deriveRow_19 (by decide) (fun c19 => ?_) (fun c19 => ?_)
      · refine z_lv [1, 0, 2, 3] rfl ?_
        exact zW_lv (by rw [← hf] <;> rfl) (J39 trivial)
      · exact absurd (by decide) c19
    | succ f ih =>
      intro hi hf
      refine z_iload_n (pc := 18) K d_M_deriveRow_18 rfl ?_
      refine z_if_le (pc := 19) K (tgt := 39) d_M_deriveRow_19 (by decide) (fun c19 => ?_) (fun c19 => ?_)
      · exact absurd c19 (nI_nle (by omega) (by omega))
      · refine z_aload_n (pc := 22) K d_M_deriveRow_22 rfl ?_
        refine z_iload_n (pc := 23) K d_M_deriveRow_23 rfl ?_
        refine z_iconst (pc := 24) K (v := 1) d_M_deriveRow_24 (by decide) ?_
        refine z_isub (pc := 25) K d_M_deriveRow_25 ?_
        refine z_eqi (nI_pred f) ?_
        refine z_iload_n (pc := 26) K d_M_deriveRow_26 rfl ?_
        refine z_cVi (pc := 27) K 0 (m_has_c (m_begin v) f k hm4 hk) (cwA K 2 k636 k638 ks29 k7 k639 q_M_has ⟨Nat.le_of_ble_eq_true rfl, Nat.le_of_ble_eq_true rfl⟩) d_M_deriveRow_27 rfl rfl rfl rfl rfl (Nat.le_of_ble_eq_true rfl) ⟨Nat.le_of_ble_eq_true rfl, Nat.le_of_ble_eq_true rfl⟩ ?_
        refine z_ifb_eq (pc := 30) K (tgt := 39) d_M_deriveRow_30 (by decide) (fun c30 => ?_) (fun c30 => ?_)
        · refine z_lv [1, 0, 2, 3] rfl ?_
          exact zW_lv (by rw [← hf, m_fst, if_neg (by rw [show m_has v f k = false from c30]; decide)] <;> rfl) (J39 trivial)
        · refine z_iinc (pc := 33) K (v := nI f) d_M_deriveRow_33 0 rfl (dec1 f) (by decide) rfl ?_
          refine z_goto (pc := 36) K (tgt := 18) d_M_deriveRow_36 (by decide) ?_
          refine z_lv [0, 1, 2, 3] rfl ?_
          exact ih (by omega) (by rw [← hf, m_fst, if_pos (show m_has v f k = true from c30)])
  refine z_lv [1, 0, 2, 3] rfl ?_
  exact LP (qV (mQ v) k) (Nat.le_refl _) rfl
set_option maxRecDepth 100000 in
set_option maxHeartbeats 4000000 in
theorem m_derive_c (v : MS) (x : Int32) (ver : Int32) (hm : mOk v) : MI l D vwCl (CT cI cJ cC cZ) (MW a cI cJ cZ) y_M_derive (wA y_M_derive prog_8_method_32_code 5 (some .int)) { frames := 4, cells := 0, slots := 0, locals := 91 } [.ref (a 0), .int x, .int ver] v ((m_derive v x ver).1) ((m_derive v x ver).2) := by
  refine MI.of (cc := prog_8_method_32_code) (nL := 5) (by decide) rfl (Nat.le_of_ble_eq_true rfl) ?_
  intro p e s m below meth c A Q K ret
  refine z_lvE (lv' := [(0, .ref (a 0)), (1, .int x), (2, .int ver)]) rfl ?_
  obtain ⟨⟨hm1, hm2, hm3, hm4⟩, hmV, hmn, hmq, hmp⟩ := id hm
  refine z_aload_n (pc := 0) K d_M_derive_0 rfl ?_
  refine z_iconst (pc := 1) K (v := 0) d_M_derive_1 (by decide) ?_
  refine z_put (pc := 2) K (ref := "DemandTermsModel") (ws' := (MW a cI cJ cZ v)) d_M_derive_2 hi_M ty_M ty_M_ok nm_M 0 rfl rfl 0 (by decide) k472 rfl rfl rfl rfl rfl (Nat.le_of_ble_eq_true rfl) rfl ?_
  refine z_aload_n (pc := 5) K d_M_derive_5 rfl ?_
  refine z_iload_n (pc := 6) K d_M_derive_6 rfl ?_
  refine z_cVi (pc := 7) K 0 (m_isName_c _ _ ) (cwA K 1 k556 k558 ks15 k7 k559 q_M_isName ⟨Nat.le_of_ble_eq_true rfl, Nat.le_of_ble_eq_true rfl⟩) d_M_derive_7 rfl rfl rfl rfl rfl (Nat.le_of_ble_eq_true rfl) ⟨Nat.le_of_ble_eq_true rfl, Nat.le_of_ble_eq_true rfl⟩ ?_
  refine z_ifb_eq (pc := 10) K (tgt := 27) d_M_derive_10 (by decide) (fun c10 => ?_) (fun c10 => ?_)
  · refine z_iconst (pc := 27) K (v := (-1)) d_M_derive_27 (by decide) ?_
    exact z_reti (pc := 28) ret d_M_derive_28 (by simp [m_derive, m_dvOk, c10]) (by simp [m_derive, m_dvOk, c10])
  · refine z_iload_n (pc := 13) K d_M_derive_13 rfl ?_
    refine z_if_lt (pc := 14) K (tgt := 27) d_M_derive_14 (by decide) (fun c14 => ?_) (fun c14 => ?_)
    · refine z_iconst (pc := 27) K (v := (-1)) d_M_derive_27 (by decide) ?_
      exact z_reti (pc := 28) ret d_M_derive_28 (by simp [m_derive, m_dvOk, c10, c14]) (by simp [m_derive, m_dvOk, c10, c14])
    · refine z_iload_n (pc := 17) K d_M_derive_17 rfl ?_
      refine z_aload_n (pc := 18) K d_M_derive_18 rfl ?_
      refine z_get (pc := 19) K (ref := "DemandTermsModel") d_M_derive_19 hi_M 0 rfl rfl 1 (by decide) k473 rfl rfl ?_
      refine z_iload_n (pc := 22) K d_M_derive_22 rfl ?_
      refine z_iald (pc := 23) K d_M_derive_23 1 0 rfl rfl (hasIx_in c10 hm1 (by decide)) ?_
      refine z_icmp_lt (pc := 24) K (tgt := 29) d_M_derive_24 (by decide) (fun c24 => ?_) (fun c24 => ?_)
      · have hok : m_dvOk v x ver = true := by simp [m_dvOk, c10, c14, c24]
        refine z_aload_n (pc := 29) K d_M_derive_29 rfl ?_
        refine z_get (pc := 30) K (ref := "DemandTermsModel") d_M_derive_30 hi_M 0 rfl rfl 4 (by decide) k476 rfl rfl ?_
        refine z_istore_n (pc := 33) K d_M_derive_33 rfl (by decide) rfl ?_
        refine z_iconst (pc := 34) K (v := 0) d_M_derive_34 (by decide) ?_
        refine z_istore (pc := 35) K d_M_derive_35 (by decide) rfl ?_
        have LP : ∀ (n k : Nat) (v2 : MS), k + n = mD v → mOk v2 → mD v2 = mD v → m_dlp x ver n k v2 = m_dlp x ver (mD v) 0 v → zW p l e { frames := 4, cells := 0, slots := 0, locals := 91 } s m [.ref (a 0), .int x, .int ver].toArray below meth c D vwCl A 5 0 0 Q (MW a cI cJ cZ v2) 37 [(4, .int (nI k)), (3, .int (nI (mB v))), (0, .ref (a 0)), (1, .int x), (2, .int ver)] [] := by
          intro n
          induction n with
          | zero =>
            intro k v2 hi h2 hd2 hf
            refine z_iload (pc := 37) K d_M_derive_37 rfl ?_
            refine z_aload_n (pc := 39) K d_M_derive_39 rfl ?_
            refine z_get (pc := 40) K (ref := "DemandTermsModel") d_M_derive_40 hi_M 0 rfl rfl 5 (by decide) k477 rfl rfl ?_
            refine z_icmp_ge (pc := 43) K (tgt := 113) d_M_derive_43 (by decide) (fun c43 => ?_) (fun c43 => ?_)
            · have hz : m_dlp x ver (mD v) 0 v = (true, v2) := by rw [← hf] <;> rfl
              refine z_aload_n (pc := 113) K d_M_derive_113 rfl ?_
              refine z_get (pc := 114) K (ref := "DemandTermsModel") d_M_derive_114 hi_M 0 rfl rfl 4 (by decide) k476 rfl rfl ?_
              refine z_iload_n (pc := 117) K d_M_derive_117 rfl ?_
              refine z_isub (pc := 118) K d_M_derive_118 ?_
              exact z_reti (pc := 119) ret d_M_derive_119 (by simp [m_derive, hok, hz]) (by simp [m_derive, hok, hz])
            · exact absurd (by rw [hd2]; exact nI_le (by omega) (by omega)) c43
          | succ n ih =>
            intro k v2 hi h2 hd2 hf
            refine z_iload (pc := 37) K d_M_derive_37 rfl ?_
            refine z_aload_n (pc := 39) K d_M_derive_39 rfl ?_
            refine z_get (pc := 40) K (ref := "DemandTermsModel") d_M_derive_40 hi_M 0 rfl rfl 5 (by decide) k477 rfl rfl ?_
            refine z_icmp_ge (pc := 43) K (tgt := 113) d_M_derive_43 (by decide) (fun c43 => ?_) (fun c43 => ?_)
            · exact absurd (by rw [hd2] at c43; exact c43) (nI_ge (a := k) (b := mD v) (by omega) (by omega))
            · refine z_aload_n (pc := 46) K d_M_derive_46 rfl ?_
              refine z_get (pc := 47) K (ref := "DemandTermsModel") d_M_derive_47 hi_M 0 rfl rfl 15 (by decide) k487 rfl rfl ?_
              refine z_iload (pc := 50) K d_M_derive_50 rfl ?_
              refine z_iald (pc := 52) K d_M_derive_52 11 0 rfl rfl (vp_in_nI (by omega) (by decide)) ?_
              refine z_eqi (y := nI (qN (mQ v2) k)) (by rw [nI_clamp (show k < 2 ^ 31 by omega)] <;> rfl) ?_
              refine z_iload_n (pc := 53) K d_M_derive_53 rfl ?_
              refine z_icmp_ne (pc := 54) K (tgt := 107) d_M_derive_54 (by decide) (fun c54 => ?_) (fun c54 => ?_)
              · refine z_iinc (pc := 107) K (v := nI (k + 1)) d_M_derive_107 0 rfl (inc1 k) (by decide) rfl ?_
                refine z_goto (pc := 110) K (tgt := 37) d_M_derive_110 (by decide) ?_
                refine z_lv [0, 1, 2, 3, 4] rfl ?_
                exact ih (k + 1) _ (by omega) h2 hd2 (by rw [← hf]; simp [m_dlp, c54])
              · refine z_aload_n (pc := 57) K d_M_derive_57 rfl ?_
                refine z_get (pc := 58) K (ref := "DemandTermsModel") d_M_derive_58 hi_M 0 rfl rfl 16 (by decide) k488 rfl rfl ?_
                refine z_iload (pc := 61) K d_M_derive_61 rfl ?_
                refine z_iald (pc := 63) K d_M_derive_63 12 0 rfl rfl (vp_in_nI (by omega) (by decide)) ?_
                refine z_eqi (y := nI (qV (mQ v2) k)) (by rw [nI_clamp (show k < 2 ^ 31 by omega)] <;> rfl) ?_
                refine z_iload_n (pc := 64) K d_M_derive_64 rfl ?_
                refine z_icmp_ne (pc := 65) K (tgt := 107) d_M_derive_65 (by decide) (fun c65 => ?_) (fun c65 => ?_)
                · refine z_iinc (pc := 107) K (v := nI (k + 1)) d_M_derive_107 0 rfl (inc1 k) (by decide) rfl ?_
                  refine z_goto (pc := 110) K (tgt := 37) d_M_derive_110 (by decide) ?_
                  refine z_lv [0, 1, 2, 3, 4] rfl ?_
                  exact ih (k + 1) _ (by omega) h2 hd2 (by rw [← hf]; simp [m_dlp, c54, c65])
                · refine z_aload_n (pc := 68) K d_M_derive_68 rfl ?_
                  refine z_iload (pc := 69) K d_M_derive_69 rfl ?_
                  refine z_aload_n (pc := 71) K d_M_derive_71 rfl ?_
                  refine z_get (pc := 72) K (ref := "DemandTermsModel") d_M_derive_72 hi_M 0 rfl rfl 4 (by decide) k476 rfl rfl ?_
                  refine z_cVi (pc := 75) K 0 (m_isDerived_c v2 k (mB v2) (by omega) h2.1.2.2.1) (cwA K 2 k624 k626 ks26 k7 k627 q_M_isDerived ⟨Nat.le_of_ble_eq_true rfl, Nat.le_of_ble_eq_true rfl⟩) d_M_derive_75 rfl rfl rfl rfl rfl (Nat.le_of_ble_eq_true rfl) ⟨Nat.le_of_ble_eq_true rfl, Nat.le_of_ble_eq_true rfl⟩ ?_
                  refine z_ifb_eq (pc := 78) K (tgt := 84) d_M_derive_78 (by decide) (fun c78 => ?_) (fun c78 => ?_)
                  · refine z_aload_n (pc := 84) K d_M_derive_84 rfl ?_
                    refine z_get (pc := 85) K (ref := "DemandTermsModel") d_M_derive_85 hi_M 0 rfl rfl 4 (by decide) k476 rfl rfl ?_
                    refine z_sipush (pc := 88) K (v := 300) d_M_derive_88 (by decide) ?_
                    refine z_icmp_ne (pc := 91) K (tgt := 101) d_M_derive_91 (by decide) (fun c91 => ?_) (fun c91 => ?_)
                    · have hb3 : mB v2 < 300 := Nat.lt_of_le_of_ne h2.1.2.2.1 (fun q => c91 (by rw [q] <;> rfl))
                      refine z_aload_n (pc := 101) K d_M_derive_101 rfl ?_
                      refine z_iload (pc := 102) K d_M_derive_102 rfl ?_
                      refine z_cVv (pc := 104) K 0 (m_deriveRow_c v2 k h2 (by omega) hb3) (cwA K 1 k628 k630 ks27 k7 k631 q_M_deriveRow ⟨Nat.le_of_ble_eq_true rfl, Nat.le_of_ble_eq_true rfl⟩) d_M_derive_104 rfl rfl rfl rfl rfl (Nat.le_of_ble_eq_true rfl) ⟨Nat.le_of_ble_eq_true rfl, Nat.le_of_ble_eq_true rfl⟩ ?_
                      refine z_iinc (pc := 107) K (v := nI (k + 1)) d_M_derive_107 0 rfl (inc1 k) (by decide) rfl ?_
                      refine z_goto (pc := 110) K (tgt := 37) d_M_derive_110 (by decide) ?_
                      refine z_lv [0, 1, 2, 3, 4] rfl ?_
                      exact ih (k + 1) _ (by omega) (dr_ok h2 hb3) (by have e := dr_K v2 k; show (mK (m_dr v2 k)).2.2.2 = mD v; rw [e]; exact hd2) (by rw [← hf]; simp [m_dlp, c54, c65, c78, c91])
                    · have hfl : m_dlp x ver (mD v) 0 v = (false, v2) := by rw [← hf]; simp [m_dlp, c54, c65, c78, c91]
                      refine z_aload_n (pc := 94) K d_M_derive_94 rfl ?_
                      refine z_iload_n (pc := 95) K d_M_derive_95 rfl ?_
                      refine z_put (pc := 96) K (ref := "DemandTermsModel") (ws' := (MW a cI cJ cZ (setB v2 (mB v)))) d_M_derive_96 hi_M ty_M ty_M_ok nm_M 0 rfl rfl 4 (by decide) k476 rfl rfl rfl rfl rfl (Nat.le_of_ble_eq_true rfl) rfl ?_
                      refine z_iconst (pc := 99) K (v := (-1)) d_M_derive_99 (by decide) ?_
                      exact z_reti (pc := 100) ret d_M_derive_100 (by simp [m_derive, hok, hfl]) (by simp [m_derive, hok, hfl])
                  · refine z_goto (pc := 81) K (tgt := 107) d_M_derive_81 (by decide) ?_
                    refine z_iinc (pc := 107) K (v := nI (k + 1)) d_M_derive_107 0 rfl (inc1 k) (by decide) rfl ?_
                    refine z_goto (pc := 110) K (tgt := 37) d_M_derive_110 (by decide) ?_
                    refine z_lv [0, 1, 2, 3, 4] rfl ?_
                    exact ih (k + 1) _ (by omega) h2 hd2 (by rw [← hf]; simp [m_dlp, c54, c65, c78])
        refine z_lv [0, 1, 2, 3, 4] rfl ?_
        exact LP _ 0 v (Nat.zero_add _) hm rfl rfl
      · refine z_iconst (pc := 27) K (v := (-1)) d_M_derive_27 (by decide) ?_
        exact z_reti (pc := 28) ret d_M_derive_28 (by simp [m_derive, m_dvOk, c10, c14, c24]) (by simp [m_derive, m_dvOk, c10, c14, c24])
set_option maxRecDepth 100000 in
set_option maxHeartbeats 4000000 in
theorem m_bar_c (v : MS) (x : Int32) (set : Int64) (dm : Bool) (hm : mOk v) : MI l D vwCl (CT cI cJ cC cZ) (MW a cI cJ cZ) y_M_bar (wA y_M_bar prog_8_method_33_code 5 (some .int)) { frames := 3, cells := 0, slots := 0, locals := 68 } [.ref (a 0), .int x, .long set, .int (bI dm)] v ((m_bar v x set dm).1) ((m_bar v x set dm).2) := by
  refine MI.of (cc := prog_8_method_33_code) (nL := 5) (by decide) rfl (Nat.le_of_ble_eq_true rfl) ?_
  intro p e s m below meth c A Q K ret
  refine z_lvE (lv' := [(0, .ref (a 0)), (1, .int x), (2, .long set), (4, .int (bI dm))]) rfl ?_
  obtain ⟨⟨hm1, hm2, hm3, hm4⟩, hmV, hmn, hmq, hmp⟩ := id hm
  refine z_aload_n (pc := 0) K d_M_bar_0 rfl ?_
  refine z_iconst (pc := 1) K (v := 0) d_M_bar_1 (by decide) ?_
  refine z_put (pc := 2) K (ref := "DemandTermsModel") (ws' := (MW a cI cJ cZ v)) d_M_bar_2 hi_M ty_M ty_M_ok nm_M 0 rfl rfl 0 (by decide) k472 rfl rfl rfl rfl rfl (Nat.le_of_ble_eq_true rfl) rfl ?_
  refine z_aload_n (pc := 5) K d_M_bar_5 rfl ?_
  refine z_iload_n (pc := 6) K d_M_bar_6 rfl ?_
  refine z_cVi (pc := 7) K 0 (m_isName_c _ _ ) (cwA K 1 k556 k558 ks15 k7 k559 q_M_isName ⟨Nat.le_of_ble_eq_true rfl, Nat.le_of_ble_eq_true rfl⟩) d_M_bar_7 rfl rfl rfl rfl rfl (Nat.le_of_ble_eq_true rfl) ⟨Nat.le_of_ble_eq_true rfl, Nat.le_of_ble_eq_true rfl⟩ ?_
  refine z_ifb_eq (pc := 10) K (tgt := 23) d_M_bar_10 (by decide) (fun c10 => ?_) (fun c10 => ?_)
  · refine z_iconst (pc := 23) K (v := (-1)) d_M_bar_23 (by decide) ?_
    exact z_reti (pc := 24) ret d_M_bar_24 (by simp [m_bar, c10]) (by simp [m_bar, c10])
  · refine z_aload_n (pc := 13) K d_M_bar_13 rfl ?_
    refine z_get (pc := 14) K (ref := "DemandTermsModel") d_M_bar_14 hi_M 0 rfl rfl 4 (by decide) k476 rfl rfl ?_
    refine z_sipush (pc := 17) K (v := 300) d_M_bar_17 (by decide) ?_
    refine z_icmp_ne (pc := 20) K (tgt := 25) d_M_bar_20 (by decide) (fun c20 => ?_) (fun c20 => ?_)
    · have hb : mB v < 300 := Nat.lt_of_le_of_ne hm3 (fun q => c20 (by rw [q] <;> rfl))
      obtain ⟨ex, hx⟩ := hasIx_self (by omega) c10
      refine z_aload_n (pc := 25) K d_M_bar_25 rfl ?_
      refine z_cVv (pc := 26) K 0 (m_begin_c v hb) (cwA K 0 k632 k634 ks28 k7 k635 q_M_begin ⟨Nat.le_of_ble_eq_true rfl, Nat.le_of_ble_eq_true rfl⟩) d_M_bar_26 rfl rfl rfl rfl rfl (Nat.le_of_ble_eq_true rfl) ⟨Nat.le_of_ble_eq_true rfl, Nat.le_of_ble_eq_true rfl⟩ ?_
      refine z_aload_n (pc := 29) K d_M_bar_29 rfl ?_
      refine z_sipush (pc := 30) K (v := 5416) d_M_bar_30 (by decide) ?_
      refine z_iload_n (pc := 33) K d_M_bar_33 rfl ?_
      refine z_eqi ex ?_
      refine z_lload_n (pc := 34) K d_M_bar_34 rfl ?_
      refine z_iload (pc := 35) K d_M_bar_35 rfl ?_
      refine z_ifb_ne (pc := 37) K (tgt := 44) d_M_bar_37 (by decide) (fun c37 => ?_) (fun c37 => ?_)
      · refine z_iconst (pc := 44) K (v := 0) d_M_bar_44 (by decide) ?_
        refine z_eqi (y := bI false) rfl ?_
        refine z_cVv (pc := 45) K 0 (m_make_c (m_begin v) 5416 x.toNatClampNeg _ _ (by decide) (by omega) (hmV _)) (cwA K 4 k560 k562 ks16 k7 k563 q_M_make ⟨Nat.le_of_ble_eq_true rfl, Nat.le_of_ble_eq_true rfl⟩) d_M_bar_45 rfl rfl rfl rfl rfl (Nat.le_of_ble_eq_true rfl) ⟨Nat.le_of_ble_eq_true rfl, Nat.le_of_ble_eq_true rfl⟩ ?_
        refine z_ws (ws' := (MW a cI cJ cZ (m_mkW (m_begin v) x.toNatClampNeg set false))) rfl ?_
        refine z_aload_n (pc := 48) K d_M_bar_48 rfl ?_
        refine z_sipush (pc := 49) K (v := 5416) d_M_bar_49 (by decide) ?_
        refine z_cVv (pc := 52) K 0 (m_addPart_c (m_mkW (m_begin v) x.toNatClampNeg set false) 5416 (mok_mkW (mok_begin hm) (by omega)) (by decide) hb (show mP (m_begin v) (mB v) < 16 by rw [begin_P]; decide)) (cwA K 1 k644 k646 ks31 k7 k647 q_M_addPart ⟨Nat.le_of_ble_eq_true rfl, Nat.le_of_ble_eq_true rfl⟩) d_M_bar_52 rfl rfl rfl rfl rfl (Nat.le_of_ble_eq_true rfl) ⟨Nat.le_of_ble_eq_true rfl, Nat.le_of_ble_eq_true rfl⟩ ?_
        refine z_aload_n (pc := 55) K d_M_bar_55 rfl ?_
        refine z_dup (pc := 56) K d_M_bar_56 rfl ?_
        refine z_get (pc := 57) K (ref := "DemandTermsModel") d_M_bar_57 hi_M 0 rfl rfl 4 (by decide) k476 rfl rfl ?_
        refine z_iconst (pc := 60) K (v := 1) d_M_bar_60 (by decide) ?_
        refine z_iadd (pc := 61) K d_M_bar_61 ?_
        refine z_eqi (nI_1 _) ?_
        refine z_put (pc := 62) K (ref := "DemandTermsModel") (ws' := (MW a cI cJ cZ (addBar (m_ap (m_mkW (m_begin v) x.toNatClampNeg set false) 5416)))) d_M_bar_62 hi_M ty_M ty_M_ok nm_M 0 rfl rfl 4 (by decide) k476 rfl rfl rfl rfl rfl (Nat.le_of_ble_eq_true rfl) rfl ?_
        refine z_aload_n (pc := 65) K d_M_bar_65 rfl ?_
        refine z_get (pc := 66) K (ref := "DemandTermsModel") d_M_bar_66 hi_M 0 rfl rfl 4 (by decide) k476 rfl rfl ?_
        refine z_iconst (pc := 69) K (v := 1) d_M_bar_69 (by decide) ?_
        refine z_isub (pc := 70) K d_M_bar_70 ?_
        have ix : mB (addBar (m_ap (m_mkW (m_begin v) x.toNatClampNeg set false) 5416)) = mB v + 1 := by show mB (m_ap _ _) + 1 = _; rw [ap_B] <;> rfl
        exact z_reti (pc := 71) ret d_M_bar_71 (by rw [m_bar, if_pos c10, if_neg c20, ix, nI_pred] <;> rfl) (by rw [m_bar, if_pos c10, if_neg c20, c37] <;> rfl)
      · refine z_iconst (pc := 40) K (v := 1) d_M_bar_40 (by decide) ?_
        refine z_goto (pc := 41) K (tgt := 45) d_M_bar_41 (by decide) ?_
        refine z_eqi (y := bI true) rfl ?_
        refine z_cVv (pc := 45) K 0 (m_make_c (m_begin v) 5416 x.toNatClampNeg _ _ (by decide) (by omega) (hmV _)) (cwA K 4 k560 k562 ks16 k7 k563 q_M_make ⟨Nat.le_of_ble_eq_true rfl, Nat.le_of_ble_eq_true rfl⟩) d_M_bar_45 rfl rfl rfl rfl rfl (Nat.le_of_ble_eq_true rfl) ⟨Nat.le_of_ble_eq_true rfl, Nat.le_of_ble_eq_true rfl⟩ ?_
        refine z_ws (ws' := (MW a cI cJ cZ (m_mkW (m_begin v) x.toNatClampNeg set true))) rfl ?_
        refine z_aload_n (pc := 48) K d_M_bar_48 rfl ?_
        refine z_sipush (pc := 49) K (v := 5416) d_M_bar_49 (by decide) ?_
        refine z_cVv (pc := 52) K 0 (m_addPart_c (m_mkW (m_begin v) x.toNatClampNeg set true) 5416 (mok_mkW (mok_begin hm) (by omega)) (by decide) hb (show mP (m_begin v) (mB v) < 16 by rw [begin_P]; decide)) (cwA K 1 k644 k646 ks31 k7 k647 q_M_addPart ⟨Nat.le_of_ble_eq_true rfl, Nat.le_of_ble_eq_true rfl⟩) d_M_bar_52 rfl rfl rfl rfl rfl (Nat.le_of_ble_eq_true rfl) ⟨Nat.le_of_ble_eq_true rfl, Nat.le_of_ble_eq_true rfl⟩ ?_
        refine z_aload_n (pc := 55) K d_M_bar_55 rfl ?_
        refine z_dup (pc := 56) K d_M_bar_56 rfl ?_
        refine z_get (pc := 57) K (ref := "DemandTermsModel") d_M_bar_57 hi_M 0 rfl rfl 4 (by decide) k476 rfl rfl ?_
        refine z_iconst (pc := 60) K (v := 1) d_M_bar_60 (by decide) ?_
        refine z_iadd (pc := 61) K d_M_bar_61 ?_
        refine z_eqi (nI_1 _) ?_
        refine z_put (pc := 62) K (ref := "DemandTermsModel") (ws' := (MW a cI cJ cZ (addBar (m_ap (m_mkW (m_begin v) x.toNatClampNeg set true) 5416)))) d_M_bar_62 hi_M ty_M ty_M_ok nm_M 0 rfl rfl 4 (by decide) k476 rfl rfl rfl rfl rfl (Nat.le_of_ble_eq_true rfl) rfl ?_
        refine z_aload_n (pc := 65) K d_M_bar_65 rfl ?_
        refine z_get (pc := 66) K (ref := "DemandTermsModel") d_M_bar_66 hi_M 0 rfl rfl 4 (by decide) k476 rfl rfl ?_
        refine z_iconst (pc := 69) K (v := 1) d_M_bar_69 (by decide) ?_
        refine z_isub (pc := 70) K d_M_bar_70 ?_
        have ix : mB (addBar (m_ap (m_mkW (m_begin v) x.toNatClampNeg set true) 5416)) = mB v + 1 := by show mB (m_ap _ _) + 1 = _; rw [ap_B] <;> rfl
        exact z_reti (pc := 71) ret d_M_bar_71 (by rw [m_bar, if_pos c10, if_neg c20, ix, nI_pred] <;> rfl) (by rw [m_bar, if_pos c10, if_neg c20, c37] <;> rfl)
    · refine z_iconst (pc := 23) K (v := (-1)) d_M_bar_23 (by decide) ?_
      exact z_reti (pc := 24) ret d_M_bar_24 (by simp [m_bar, c10, c20]) (by simp [m_bar, c10, c20])
set_option maxRecDepth 100000 in
set_option maxHeartbeats 4000000 in
theorem m_partOf_c (v : MS) (k : Nat) (x : Int32) (hm : mOk v) (hk : k < 300) : MI l D vwCl (CT cI cJ cC cZ) (MW a cI cJ cZ) y_M_partOf (wA y_M_partOf prog_8_method_34_code 5 (some .int)) { frames := 0, cells := 0, slots := 0, locals := 0 } [.ref (a 0), .int (nI k), .int x] v (fI (m_po v k x)) (v) := by
  refine MI.of (cc := prog_8_method_34_code) (nL := 5) (by decide) rfl (Nat.le_of_ble_eq_true rfl) ?_
  intro p e s m below meth c A Q K ret
  refine z_lvE (lv' := [(0, .ref (a 0)), (1, .int (nI k)), (2, .int x)]) rfl ?_
  obtain ⟨⟨hm1, hm2, hm3, hm4⟩, hmV, hmn, hmq, hmp⟩ := id hm
  have hpk := hmp k
  refine z_iconst (pc := 0) K (v := (-1)) d_M_partOf_0 (by decide) ?_
  refine z_istore_n (pc := 1) K d_M_partOf_1 rfl (by decide) rfl ?_
  refine z_iconst (pc := 2) K (v := 0) d_M_partOf_2 (by decide) ?_
  refine z_istore (pc := 3) K d_M_partOf_3 (by decide) rfl ?_
  have LP : ∀ (n i : Nat) (f : Int32), i + n = mP v k → f = fI (m_pol v k x i) → zW p l e { frames := 0, cells := 0, slots := 0, locals := 0 } s m [.ref (a 0), .int (nI k), .int x].toArray below meth c D vwCl A 5 0 0 Q (MW a cI cJ cZ v) 5 [(4, .int (nI i)), (3, .int f), (0, .ref (a 0)), (1, .int (nI k)), (2, .int x)] [] := by
    intro n
    induction n with
    | zero =>
      intro i f hi hf
      refine z_iload (pc := 5) K d_M_partOf_5 rfl ?_
      refine z_aload_n (pc := 7) K d_M_partOf_7 rfl ?_
      refine z_get (pc := 8) K (ref := "DemandTermsModel") d_M_partOf_8 hi_M 0 rfl rfl 8 (by decide) k480 rfl rfl ?_
      refine z_iload_n (pc := 11) K d_M_partOf_11 rfl ?_
      refine z_iald (pc := 12) K d_M_partOf_12 4 0 rfl rfl (vp_in_nI hk (by decide)) ?_
      refine z_eqi (y := nI (mP v k)) (by rw [nI_clamp (show k < 2 ^ 31 by omega)] <;> rfl) ?_
      refine z_icmp_ge (pc := 13) K (tgt := 58) d_M_partOf_13 (by decide) (fun c13 => ?_) (fun c13 => ?_)
      · refine z_iload_n (pc := 58) K d_M_partOf_58 rfl ?_
        exact z_reti (pc := 59) ret d_M_partOf_59 (by rw [hf, m_po, show i = mP v k by omega]) rfl
      · exact absurd (nI_le (a := (mP v k)) (b := i) (by omega) (by omega)) c13
    | succ n ih =>
      intro i f hi hf
      refine z_iload (pc := 5) K d_M_partOf_5 rfl ?_
      refine z_aload_n (pc := 7) K d_M_partOf_7 rfl ?_
      refine z_get (pc := 8) K (ref := "DemandTermsModel") d_M_partOf_8 hi_M 0 rfl rfl 8 (by decide) k480 rfl rfl ?_
      refine z_iload_n (pc := 11) K d_M_partOf_11 rfl ?_
      refine z_iald (pc := 12) K d_M_partOf_12 4 0 rfl rfl (vp_in_nI hk (by decide)) ?_
      refine z_eqi (y := nI (mP v k)) (by rw [nI_clamp (show k < 2 ^ 31 by omega)] <;> rfl) ?_
      refine z_icmp_ge (pc := 13) K (tgt := 58) d_M_partOf_13 (by decide) (fun c13 => ?_) (fun c13 => ?_)
      · exact absurd c13 (nI_ge (a := i) (b := (mP v k)) (by omega) (by omega))
      · refine z_aload_n (pc := 16) K d_M_partOf_16 rfl ?_
        refine z_get (pc := 17) K (ref := "DemandTermsModel") d_M_partOf_17 hi_M 0 rfl rfl 6 (by decide) k478 rfl rfl ?_
        refine z_sipush (pc := 20) K (v := 600) d_M_partOf_20 (by decide) ?_
        refine z_bipush (pc := 23) K (v := 16) d_M_partOf_23 (by decide) ?_
        refine z_iload_n (pc := 25) K d_M_partOf_25 rfl ?_
        refine z_imul (pc := 26) K d_M_partOf_26 ?_
        refine z_iadd (pc := 27) K d_M_partOf_27 ?_
        refine z_iload (pc := 28) K d_M_partOf_28 rfl ?_
        refine z_iadd (pc := 30) K d_M_partOf_30 ?_
        refine z_eqi (ix600 k i) ?_
        refine z_iald (pc := 31) K d_M_partOf_31 2 0 rfl rfl (vp_in_nI (by omega) (by decide)) ?_
        refine z_eqi (y := nI ((mL v).1 (600 + 16 * k + i))) (by rw [nI_clamp (show 600 + 16 * k + i < 2 ^ 31 by omega)] <;> rfl) ?_
        refine z_iload_n (pc := 32) K d_M_partOf_32 rfl ?_
        refine z_icmp_ne (pc := 33) K (tgt := 50) d_M_partOf_33 (by decide) (fun c33 => ?_) (fun c33 => ?_)
        · refine z_iload_n (pc := 50) K d_M_partOf_50 rfl ?_
          refine z_istore_n (pc := 51) K d_M_partOf_51 rfl (by decide) rfl ?_
          refine z_iinc (pc := 52) K (v := nI (i + 1)) d_M_partOf_52 1 rfl (inc1 i) (by decide) rfl ?_
          refine z_goto (pc := 55) K (tgt := 5) d_M_partOf_55 (by decide) ?_
          refine z_lv [0, 1, 2, 3, 4] rfl ?_
          exact ih (i + 1) _ (by omega) (by rw [m_pol, if_neg c33] <;> first | rfl | exact hf)
        · refine z_sipush (pc := 36) K (v := 600) d_M_partOf_36 (by decide) ?_
          refine z_bipush (pc := 39) K (v := 16) d_M_partOf_39 (by decide) ?_
          refine z_iload_n (pc := 41) K d_M_partOf_41 rfl ?_
          refine z_imul (pc := 42) K d_M_partOf_42 ?_
          refine z_iadd (pc := 43) K d_M_partOf_43 ?_
          refine z_iload (pc := 44) K d_M_partOf_44 rfl ?_
          refine z_iadd (pc := 46) K d_M_partOf_46 ?_
          refine z_goto (pc := 47) K (tgt := 51) d_M_partOf_47 (by decide) ?_
          refine z_eqi (ix600 k i) ?_
          refine z_istore_n (pc := 51) K d_M_partOf_51 rfl (by decide) rfl ?_
          refine z_iinc (pc := 52) K (v := nI (i + 1)) d_M_partOf_52 1 rfl (inc1 i) (by decide) rfl ?_
          refine z_goto (pc := 55) K (tgt := 5) d_M_partOf_55 (by decide) ?_
          refine z_lv [0, 1, 2, 3, 4] rfl ?_
          exact ih (i + 1) _ (by omega) (by rw [m_pol, if_pos c33] <;> first | rfl | exact hf)
  refine z_lv [0, 1, 2, 3, 4] rfl ?_
  exact LP _ 0 _ (Nat.zero_add _) rfl
set_option maxRecDepth 100000 in
set_option maxHeartbeats 4000000 in
theorem m_stateOf_c (v : MS) (t : Nat) (hm : mOk v) (ht : t < 5420) : MI l D vwCl (CT cI cJ cC cZ) (MW a cI cJ cZ) y_M_stateOf (wA y_M_stateOf prog_8_method_43_code 2 (some .int)) { frames := 2, cells := 0, slots := 0, locals := 47 } [.ref (a 0), .int (nI t)] v (m_sto v t) (v) := by
  refine MI.of (cc := prog_8_method_43_code) (nL := 2) (by decide) rfl (Nat.le_of_ble_eq_true rfl) ?_
  intro p e s m below meth c A Q K ret
  refine z_lvE (lv' := [(0, .ref (a 0)), (1, .int (nI t))]) rfl ?_
  obtain ⟨⟨hm1, hm2, hm3, hm4⟩, hmV, hmn, hmq, hmp⟩ := id hm
  have hnt := hmn t
  refine z_aload_n (pc := 0) K d_M_stateOf_0 rfl ?_
  refine z_sipush (pc := 1) K (v := 5400) d_M_stateOf_1 (by decide) ?_
  refine z_aload_n (pc := 4) K d_M_stateOf_4 rfl ?_
  refine z_get (pc := 5) K (ref := "DemandTermsModel") d_M_stateOf_5 hi_M 0 rfl rfl 6 (by decide) k478 rfl rfl ?_
  refine z_iload_n (pc := 8) K d_M_stateOf_8 rfl ?_
  refine z_iald (pc := 9) K d_M_stateOf_9 2 0 rfl rfl (vp_in_nI ht (by decide)) ?_
  refine z_eqi (y := nI ((mL v).1 t)) (by rw [nI_clamp (show t < 2 ^ 31 by omega)] <;> rfl) ?_
  refine z_iadd (pc := 10) K d_M_stateOf_10 ?_
  refine z_eqi (ix5400 _) ?_
  refine z_iload_n (pc := 11) K d_M_stateOf_11 rfl ?_
  refine z_cVi (pc := 12) K 0 (m_relation_c _ (5400 + (mL v).1 t) t (by omega) ht) (cwA K 2 k584 k586 ks20 k7 k587 q_M_relation ⟨Nat.le_of_ble_eq_true rfl, Nat.le_of_ble_eq_true rfl⟩) d_M_stateOf_12 rfl rfl rfl rfl rfl (Nat.le_of_ble_eq_true rfl) ⟨Nat.le_of_ble_eq_true rfl, Nat.le_of_ble_eq_true rfl⟩ ?_
  exact z_reti (pc := 15) ret d_M_stateOf_15 rfl rfl
set_option maxRecDepth 100000 in
set_option maxHeartbeats 4000000 in
theorem m_counted_c (v : MS) (k : Nat) (sx : Int32) (hm : mOk v) (hk : k < 300) : MI l D vwCl (CT cI cJ cC cZ) (MW a cI cJ cZ) y_M_counted (wA y_M_counted prog_8_method_44_code 5 (some .int)) { frames := 3, cells := 0, slots := 0, locals := 68 } [.ref (a 0), .int (nI k), .int sx] v (nI (m_ct v k sx)) (v) := by
  refine MI.of (cc := prog_8_method_44_code) (nL := 5) (by decide) rfl (Nat.le_of_ble_eq_true rfl) ?_
  intro p e s m below meth c A Q K ret
  refine z_lvE (lv' := [(0, .ref (a 0)), (1, .int (nI k)), (2, .int sx)]) rfl ?_
  obtain ⟨⟨hm1, hm2, hm3, hm4⟩, hmV, hmn, hmq, hmp⟩ := id hm
  have hpk := hmp k
  refine z_iconst (pc := 0) K (v := 0) d_M_counted_0 (by decide) ?_
  refine z_istore_n (pc := 1) K d_M_counted_1 rfl (by decide) rfl ?_
  refine z_iconst (pc := 2) K (v := 0) d_M_counted_2 (by decide) ?_
  refine z_istore (pc := 3) K d_M_counted_3 (by decide) rfl ?_
  have LP : ∀ (n i f : Nat), i + n = mP v k → f = cntB (fun i => decide (m_sto v (600 + 16 * k + i) = sx)) i → zW p l e { frames := 3, cells := 0, slots := 0, locals := 68 } s m [.ref (a 0), .int (nI k), .int sx].toArray below meth c D vwCl A 5 0 0 Q (MW a cI cJ cZ v) 5 [(4, .int (nI i)), (3, .int (nI f)), (0, .ref (a 0)), (1, .int (nI k)), (2, .int sx)] [] := by
    intro n
    induction n with
    | zero =>
      intro i f hi hf
      refine z_iload (pc := 5) K d_M_counted_5 rfl ?_
      refine z_aload_n (pc := 7) K d_M_counted_7 rfl ?_
      refine z_get (pc := 8) K (ref := "DemandTermsModel") d_M_counted_8 hi_M 0 rfl rfl 8 (by decide) k480 rfl rfl ?_
      refine z_iload_n (pc := 11) K d_M_counted_11 rfl ?_
      refine z_iald (pc := 12) K d_M_counted_12 4 0 rfl rfl (vp_in_nI hk (by decide)) ?_
      refine z_eqi (y := nI (mP v k)) (by rw [nI_clamp (show k < 2 ^ 31 by omega)] <;> rfl) ?_
      refine z_icmp_ge (pc := 13) K (tgt := 49) d_M_counted_13 (by decide) (fun c13 => ?_) (fun c13 => ?_)
      · refine z_iload_n (pc := 49) K d_M_counted_49 rfl ?_
        exact z_reti (pc := 50) ret d_M_counted_50 (by rw [hf, m_ct, show i = mP v k by omega]) rfl
      · exact absurd (nI_le (a := (mP v k)) (b := i) (by omega) (by omega)) c13
    | succ n ih =>
      intro i f hi hf
      refine z_iload (pc := 5) K d_M_counted_5 rfl ?_
      refine z_aload_n (pc := 7) K d_M_counted_7 rfl ?_
      refine z_get (pc := 8) K (ref := "DemandTermsModel") d_M_counted_8 hi_M 0 rfl rfl 8 (by decide) k480 rfl rfl ?_
      refine z_iload_n (pc := 11) K d_M_counted_11 rfl ?_
      refine z_iald (pc := 12) K d_M_counted_12 4 0 rfl rfl (vp_in_nI hk (by decide)) ?_
      refine z_eqi (y := nI (mP v k)) (by rw [nI_clamp (show k < 2 ^ 31 by omega)] <;> rfl) ?_
      refine z_icmp_ge (pc := 13) K (tgt := 49) d_M_counted_13 (by decide) (fun c13 => ?_) (fun c13 => ?_)
      · exact absurd c13 (nI_ge (a := i) (b := (mP v k)) (by omega) (by omega))
      · refine z_iload_n (pc := 16) K d_M_counted_16 rfl ?_
        refine z_aload_n (pc := 17) K d_M_counted_17 rfl ?_
        refine z_sipush (pc := 18) K (v := 600) d_M_counted_18 (by decide) ?_
        refine z_bipush (pc := 21) K (v := 16) d_M_counted_21 (by decide) ?_
        refine z_iload_n (pc := 23) K d_M_counted_23 rfl ?_
        refine z_imul (pc := 24) K d_M_counted_24 ?_
        refine z_iadd (pc := 25) K d_M_counted_25 ?_
        refine z_iload (pc := 26) K d_M_counted_26 rfl ?_
        refine z_iadd (pc := 28) K d_M_counted_28 ?_
        refine z_eqi (ix600 k i) ?_
        refine z_cVi (pc := 29) K 0 (m_stateOf_c _ (600 + 16 * k + i) hm (by omega)) (cwA K 1 k712 k714 ks39 k7 k715 q_M_stateOf ⟨Nat.le_of_ble_eq_true rfl, Nat.le_of_ble_eq_true rfl⟩) d_M_counted_29 rfl rfl rfl rfl rfl (Nat.le_of_ble_eq_true rfl) ⟨Nat.le_of_ble_eq_true rfl, Nat.le_of_ble_eq_true rfl⟩ ?_
        refine z_iload_n (pc := 32) K d_M_counted_32 rfl ?_
        refine z_icmp_ne (pc := 33) K (tgt := 40) d_M_counted_33 (by decide) (fun c33 => ?_) (fun c33 => ?_)
        · refine z_iconst (pc := 40) K (v := 0) d_M_counted_40 (by decide) ?_
          refine z_iadd (pc := 41) K d_M_counted_41 ?_
          refine z_eqi (nI_z _) ?_
          refine z_istore_n (pc := 42) K d_M_counted_42 rfl (by decide) rfl ?_
          refine z_iinc (pc := 43) K (v := nI (i + 1)) d_M_counted_43 1 rfl (inc1 i) (by decide) rfl ?_
          refine z_goto (pc := 46) K (tgt := 5) d_M_counted_46 (by decide) ?_
          refine z_lv [0, 1, 2, 3, 4] rfl ?_
          exact ih (i + 1) _ (by omega) (by rw [cntB, hf]; simp [c33])
        · refine z_iconst (pc := 36) K (v := 1) d_M_counted_36 (by decide) ?_
          refine z_goto (pc := 37) K (tgt := 41) d_M_counted_37 (by decide) ?_
          refine z_iadd (pc := 41) K d_M_counted_41 ?_
          refine z_eqi (nI_1 _) ?_
          refine z_istore_n (pc := 42) K d_M_counted_42 rfl (by decide) rfl ?_
          refine z_iinc (pc := 43) K (v := nI (i + 1)) d_M_counted_43 1 rfl (inc1 i) (by decide) rfl ?_
          refine z_goto (pc := 46) K (tgt := 5) d_M_counted_46 (by decide) ?_
          refine z_lv [0, 1, 2, 3, 4] rfl ?_
          exact ih (i + 1) _ (by omega) (by rw [cntB, hf]; simp [c33])
  refine z_lv [0, 1, 2, 3, 4] rfl ?_
  exact LP _ 0 0 (Nat.zero_add _) rfl
set_option maxRecDepth 100000 in
set_option maxHeartbeats 4000000 in
theorem m_look_c (v : MS) (k : Nat) (hm : mOk v) (hk : k < 300) : MI l D vwCl (CT cI cJ cC cZ) (MW a cI cJ cZ) y_M_look (wA y_M_look prog_8_method_45_code 3 (some .int)) { frames := 4, cells := 0, slots := 0, locals := 92 } [.ref (a 0), .int (nI k)] v (m_look v k) (v) := by
  refine MI.of (cc := prog_8_method_45_code) (nL := 3) (by decide) rfl (Nat.le_of_ble_eq_true rfl) ?_
  intro p e s m below meth c A Q K ret
  refine z_lvE (lv' := [(0, .ref (a 0)), (1, .int (nI k))]) rfl ?_
  obtain ⟨⟨hm1, hm2, hm3, hm4⟩, hmV, hmn, hmq, hmp⟩ := id hm
  have hc1 : m_ct v k (-1) ≤ 16 := Nat.le_trans (cnt_le _ _) (hmp k)
  have hc0 : m_ct v k 0 ≤ 16 := Nat.le_trans (cnt_le _ _) (hmp k)
  refine z_aload_n (pc := 0) K d_M_look_0 rfl ?_
  refine z_iload_n (pc := 1) K d_M_look_1 rfl ?_
  refine z_iconst (pc := 2) K (v := (-1)) d_M_look_2 (by decide) ?_
  refine z_cVi (pc := 3) K 0 (m_counted_c _ k _ hm hk) (cwA K 2 k708 k710 ks38 k7 k711 q_M_counted ⟨Nat.le_of_ble_eq_true rfl, Nat.le_of_ble_eq_true rfl⟩) d_M_look_3 rfl rfl rfl rfl rfl (Nat.le_of_ble_eq_true rfl) ⟨Nat.le_of_ble_eq_true rfl, Nat.le_of_ble_eq_true rfl⟩ ?_
  refine z_if_le (pc := 6) K (tgt := 11) d_M_look_6 (by decide) (fun c6 => ?_) (fun c6 => ?_)
  · refine z_aload_n (pc := 11) K d_M_look_11 rfl ?_
    refine z_iload_n (pc := 12) K d_M_look_12 rfl ?_
    refine z_iconst (pc := 13) K (v := 0) d_M_look_13 (by decide) ?_
    refine z_cVi (pc := 14) K 0 (m_counted_c _ k _ hm hk) (cwA K 2 k708 k710 ks38 k7 k711 q_M_counted ⟨Nat.le_of_ble_eq_true rfl, Nat.le_of_ble_eq_true rfl⟩) d_M_look_14 rfl rfl rfl rfl rfl (Nat.le_of_ble_eq_true rfl) ⟨Nat.le_of_ble_eq_true rfl, Nat.le_of_ble_eq_true rfl⟩ ?_
    refine z_istore_n (pc := 17) K d_M_look_17 rfl (by decide) rfl ?_
    refine z_iload_n (pc := 18) K d_M_look_18 rfl ?_
    refine z_if_ne (pc := 19) K (tgt := 26) d_M_look_19 (by decide) (fun c19 => ?_) (fun c19 => ?_)
    · refine z_iload_n (pc := 26) K d_M_look_26 rfl ?_
      refine z_iconst (pc := 27) K (v := 1) d_M_look_27 (by decide) ?_
      refine z_icmp_ne (pc := 28) K (tgt := 35) d_M_look_28 (by decide) (fun c28 => ?_) (fun c28 => ?_)
      · refine z_iconst (pc := 35) K (v := 0) d_M_look_35 (by decide) ?_
        exact z_reti (pc := 36) ret d_M_look_36 (by rw [m_look, if_neg (fun q => absurd c6 (nI_nle q (by omega))), if_neg (fun z => c19 (by rw [z] <;> rfl)), if_neg (fun z => c28 (by rw [z] <;> rfl))] <;> rfl) rfl
      · refine z_iconst (pc := 31) K (v := 2) d_M_look_31 (by decide) ?_
        refine z_goto (pc := 32) K (tgt := 36) d_M_look_32 (by decide) ?_
        exact z_reti (pc := 36) ret d_M_look_36 (by rw [m_look, if_neg (fun q => absurd c6 (nI_nle q (by omega))), if_neg (fun z => c19 (by rw [z] <;> rfl)), if_pos (nI1 (by omega) c28)] <;> rfl) rfl
    · refine z_iconst (pc := 22) K (v := 1) d_M_look_22 (by decide) ?_
      refine z_goto (pc := 23) K (tgt := 36) d_M_look_23 (by decide) ?_
      exact z_reti (pc := 36) ret d_M_look_36 (by rw [m_look, if_neg (fun q => absurd c6 (nI_nle q (by omega))), if_pos (nIz (by omega) c19)] <;> rfl) rfl
  · refine z_iconst (pc := 9) K (v := (-1)) d_M_look_9 (by decide) ?_
    exact z_reti (pc := 10) ret d_M_look_10 (by rw [m_look, if_pos (Nat.pos_of_ne_zero (fun q => c6 (by rw [q]; decide)))]) rfl
set_option maxRecDepth 100000 in
set_option maxHeartbeats 4000000 in
theorem m_openPart_c (v : MS) (k : Nat) (hm : mOk v) (hk : k < 300) : MI l D vwCl (CT cI cJ cC cZ) (MW a cI cJ cZ) y_M_openPart (wA y_M_openPart prog_8_method_46_code 4 (some .int)) { frames := 3, cells := 0, slots := 0, locals := 68 } [.ref (a 0), .int (nI k)] v (fI (m_op v k)) (v) := by
  refine MI.of (cc := prog_8_method_46_code) (nL := 4) (by decide) rfl (Nat.le_of_ble_eq_true rfl) ?_
  intro p e s m below meth c A Q K ret
  refine z_lvE (lv' := [(0, .ref (a 0)), (1, .int (nI k))]) rfl ?_
  obtain ⟨⟨hm1, hm2, hm3, hm4⟩, hmV, hmn, hmq, hmp⟩ := id hm
  have hpk := hmp k
  refine z_iconst (pc := 0) K (v := (-1)) d_M_openPart_0 (by decide) ?_
  refine z_istore_n (pc := 1) K d_M_openPart_1 rfl (by decide) rfl ?_
  refine z_iconst (pc := 2) K (v := 0) d_M_openPart_2 (by decide) ?_
  refine z_istore_n (pc := 3) K d_M_openPart_3 rfl (by decide) rfl ?_
  have LP : ∀ (n i : Nat) (f : Int32), i + n = mP v k → f = fI (m_opl v k i) → zW p l e { frames := 3, cells := 0, slots := 0, locals := 68 } s m [.ref (a 0), .int (nI k)].toArray below meth c D vwCl A 4 0 0 Q (MW a cI cJ cZ v) 4 [(3, .int (nI i)), (2, .int f), (0, .ref (a 0)), (1, .int (nI k))] [] := by
    intro n
    induction n with
    | zero =>
      intro i f hi hf
      refine z_iload_n (pc := 4) K d_M_openPart_4 rfl ?_
      refine z_aload_n (pc := 5) K d_M_openPart_5 rfl ?_
      refine z_get (pc := 6) K (ref := "DemandTermsModel") d_M_openPart_6 hi_M 0 rfl rfl 8 (by decide) k480 rfl rfl ?_
      refine z_iload_n (pc := 9) K d_M_openPart_9 rfl ?_
      refine z_iald (pc := 10) K d_M_openPart_10 4 0 rfl rfl (vp_in_nI hk (by decide)) ?_
      refine z_eqi (y := nI (mP v k)) (by rw [nI_clamp (show k < 2 ^ 31 by omega)] <;> rfl) ?_
      refine z_icmp_ge (pc := 11) K (tgt := 43) d_M_openPart_11 (by decide) (fun c11 => ?_) (fun c11 => ?_)
      · refine z_iload_n (pc := 43) K d_M_openPart_43 rfl ?_
        exact z_reti (pc := 44) ret d_M_openPart_44 (by rw [hf, m_op, show i = mP v k by omega]) rfl
      · exact absurd (nI_le (a := (mP v k)) (b := i) (by omega) (by omega)) c11
    | succ n ih =>
      intro i f hi hf
      refine z_iload_n (pc := 4) K d_M_openPart_4 rfl ?_
      refine z_aload_n (pc := 5) K d_M_openPart_5 rfl ?_
      refine z_get (pc := 6) K (ref := "DemandTermsModel") d_M_openPart_6 hi_M 0 rfl rfl 8 (by decide) k480 rfl rfl ?_
      refine z_iload_n (pc := 9) K d_M_openPart_9 rfl ?_
      refine z_iald (pc := 10) K d_M_openPart_10 4 0 rfl rfl (vp_in_nI hk (by decide)) ?_
      refine z_eqi (y := nI (mP v k)) (by rw [nI_clamp (show k < 2 ^ 31 by omega)] <;> rfl) ?_
      refine z_icmp_ge (pc := 11) K (tgt := 43) d_M_openPart_11 (by decide) (fun c11 => ?_) (fun c11 => ?_)
      · exact absurd c11 (nI_ge (a := i) (b := (mP v k)) (by omega) (by omega))
      · refine z_aload_n (pc := 14) K d_M_openPart_14 rfl ?_
        refine z_sipush (pc := 15) K (v := 600) d_M_openPart_15 (by decide) ?_
        refine z_bipush (pc := 18) K (v := 16) d_M_openPart_18 (by decide) ?_
        refine z_iload_n (pc := 20) K d_M_openPart_20 rfl ?_
        refine z_imul (pc := 21) K d_M_openPart_21 ?_
        refine z_iadd (pc := 22) K d_M_openPart_22 ?_
        refine z_iload_n (pc := 23) K d_M_openPart_23 rfl ?_
        refine z_iadd (pc := 24) K d_M_openPart_24 ?_
        refine z_eqi (ix600 k i) ?_
        refine z_cVi (pc := 25) K 0 (m_stateOf_c _ (600 + 16 * k + i) hm (by omega)) (cwA K 1 k712 k714 ks39 k7 k715 q_M_stateOf ⟨Nat.le_of_ble_eq_true rfl, Nat.le_of_ble_eq_true rfl⟩) d_M_openPart_25 rfl rfl rfl rfl rfl (Nat.le_of_ble_eq_true rfl) ⟨Nat.le_of_ble_eq_true rfl, Nat.le_of_ble_eq_true rfl⟩ ?_
        refine z_if_ne (pc := 28) K (tgt := 35) d_M_openPart_28 (by decide) (fun c28 => ?_) (fun c28 => ?_)
        · refine z_iload_n (pc := 35) K d_M_openPart_35 rfl ?_
          refine z_istore_n (pc := 36) K d_M_openPart_36 rfl (by decide) rfl ?_
          refine z_iinc (pc := 37) K (v := nI (i + 1)) d_M_openPart_37 1 rfl (inc1 i) (by decide) rfl ?_
          refine z_goto (pc := 40) K (tgt := 4) d_M_openPart_40 (by decide) ?_
          refine z_lv [0, 1, 2, 3] rfl ?_
          exact ih (i + 1) _ (by omega) (by rw [m_opl, if_neg c28] <;> first | rfl | exact hf)
        · refine z_iload_n (pc := 31) K d_M_openPart_31 rfl ?_
          refine z_goto (pc := 32) K (tgt := 36) d_M_openPart_32 (by decide) ?_
          refine z_istore_n (pc := 36) K d_M_openPart_36 rfl (by decide) rfl ?_
          refine z_iinc (pc := 37) K (v := nI (i + 1)) d_M_openPart_37 1 rfl (inc1 i) (by decide) rfl ?_
          refine z_goto (pc := 40) K (tgt := 4) d_M_openPart_40 (by decide) ?_
          refine z_lv [0, 1, 2, 3] rfl ?_
          exact ih (i + 1) _ (by omega) (by rw [m_opl, if_pos c28] <;> first | rfl | exact hf)
  refine z_lv [0, 1, 2, 3] rfl ?_
  exact LP _ 0 _ (Nat.zero_add _) rfl
set_option maxRecDepth 100000 in
set_option maxHeartbeats 4000000 in
theorem m_firstKept_c (v : MS)  (hm : mOk v) : MI l D vwCl (CT cI cJ cC cZ) (MW a cI cJ cZ) y_M_firstKept (wA y_M_firstKept prog_8_method_49_code 2 (some .int)) { frames := 5, cells := 0, slots := 0, locals := 114 } [.ref (a 0)] v (m_fk v) (v) := by
  refine MI.of (cc := prog_8_method_49_code) (nL := 2) (by decide) rfl (Nat.le_of_ble_eq_true rfl) ?_
  intro p e s m below meth c A Q K ret
  refine z_lvE (lv' := [(0, .ref (a 0))]) rfl ?_
  obtain ⟨⟨hm1, hm2, hm3, hm4⟩, hmV, hmn, hmq, hmp⟩ := id hm
  refine z_iconst (pc := 0) K (v := 0) d_M_firstKept_0 (by decide) ?_
  refine z_istore_n (pc := 1) K d_M_firstKept_1 rfl (by decide) rfl ?_
  have LP : ∀ (n i : Nat), i + n = mB v → fnd (fun k => decide (m_look v k = 1)) n i = fnd (fun k => decide (m_look v k = 1)) (mB v) 0 → zW p l e { frames := 5, cells := 0, slots := 0, locals := 114 } s m [.ref (a 0)].toArray below meth c D vwCl A 2 0 0 Q (MW a cI cJ cZ v) 2 [(1, .int (nI i)), (0, .ref (a 0))] [] := by
    intro n
    induction n with
    | zero =>
      intro i hi hf
      refine z_iload_n (pc := 2) K d_M_firstKept_2 rfl ?_
      refine z_aload_n (pc := 3) K d_M_firstKept_3 rfl ?_
      refine z_get (pc := 4) K (ref := "DemandTermsModel") d_M_firstKept_4 hi_M 0 rfl rfl 4 (by decide) k476 rfl rfl ?_
      refine z_icmp_ge (pc := 7) K (tgt := 27) d_M_firstKept_7 (by decide) (fun c7 => ?_) (fun c7 => ?_)
      · refine z_iconst (pc := 27) K (v := (-1)) d_M_firstKept_27 (by decide) ?_
        exact z_reti (pc := 28) ret d_M_firstKept_28 (by rw [m_fk, ← hf] <;> rfl) rfl
      · exact absurd (nI_le (a := (mB v)) (b := i) (by omega) (by omega)) c7
    | succ n ih =>
      intro i hi hf
      refine z_iload_n (pc := 2) K d_M_firstKept_2 rfl ?_
      refine z_aload_n (pc := 3) K d_M_firstKept_3 rfl ?_
      refine z_get (pc := 4) K (ref := "DemandTermsModel") d_M_firstKept_4 hi_M 0 rfl rfl 4 (by decide) k476 rfl rfl ?_
      refine z_icmp_ge (pc := 7) K (tgt := 27) d_M_firstKept_7 (by decide) (fun c7 => ?_) (fun c7 => ?_)
      · exact absurd c7 (nI_ge (a := i) (b := (mB v)) (by omega) (by omega))
      · refine z_aload_n (pc := 10) K d_M_firstKept_10 rfl ?_
        refine z_iload_n (pc := 11) K d_M_firstKept_11 rfl ?_
        refine z_cVi (pc := 12) K 0 (m_look_c _ i hm (by omega)) (cwA K 1 k704 k706 ks37 k7 k707 q_M_look ⟨Nat.le_of_ble_eq_true rfl, Nat.le_of_ble_eq_true rfl⟩) d_M_firstKept_12 rfl rfl rfl rfl rfl (Nat.le_of_ble_eq_true rfl) ⟨Nat.le_of_ble_eq_true rfl, Nat.le_of_ble_eq_true rfl⟩ ?_
        refine z_iconst (pc := 15) K (v := 1) d_M_firstKept_15 (by decide) ?_
        refine z_icmp_ne (pc := 16) K (tgt := 21) d_M_firstKept_16 (by decide) (fun c16 => ?_) (fun c16 => ?_)
        · refine z_iinc (pc := 21) K (v := nI (i + 1)) d_M_firstKept_21 0 rfl (inc1 i) (by decide) rfl ?_
          refine z_goto (pc := 24) K (tgt := 2) d_M_firstKept_24 (by decide) ?_
          refine z_lv [0, 1] rfl ?_
          exact ih (i + 1) (by omega) (by rw [← hf]; simp [fnd, c16])
        · refine z_iload_n (pc := 19) K d_M_firstKept_19 rfl ?_
          exact z_reti (pc := 20) ret d_M_firstKept_20 (by rw [m_fk, ← hf]; simp [fnd, fI, c16]) rfl
  refine z_lv [0, 1] rfl ?_
  exact LP _ 0 (Nat.zero_add _) rfl
end CM
