section CM
variable {l : Launch} {D : va_G} {a : Nat → Nat} {cI cJ cC cZ : ClassId}
set_option maxRecDepth 100000 in
set_option maxHeartbeats 4000000 in
theorem m_there_c (v : MS) (x : Nat) (set : Int64) (hx : x < 16) (hv : mV v x ≤ 48) : ML l D vwCl (CT cI cJ cC cZ) (MW a cI cJ cZ) y_M_there (wA y_M_there prog_8_method_24_code 7 (some .long)) { frames := 0, cells := 0, slots := 0, locals := 0 } [.ref (a 0), .int (nI x), .long set] v (thS set (mV v x)) (v) := by
  refine ML.of (cc := prog_8_method_24_code) (nL := 7) (by decide) rfl (Nat.le_of_ble_eq_true rfl) ?_
  intro p e s m below meth c A Q K ret
  refine z_lvE (lv' := [(0, .ref (a 0)), (1, .int (nI x)), (2, .long set)]) rfl ?_
  refine z_lconst (pc := 0) K (v := 0) d_M_there_0 (by decide) ?_
  refine z_lstore (pc := 1) K d_M_there_1 (by decide) rfl ?_
  refine z_iconst (pc := 3) K (v := 0) d_M_there_3 (by decide) ?_
  refine z_istore (pc := 4) K d_M_there_4 (by decide) rfl ?_
  have LP : ∀ (n i : Nat) (f : Int64), i + n = mV v x → f = thS set i → zW p l e { frames := 0, cells := 0, slots := 0, locals := 0 } s m [.ref (a 0), .int (nI x), .long set].toArray below meth c D vwCl A 7 0 0 Q (MW a cI cJ cZ v) 6 [(6, .int (nI i)), (4, .long f), (0, .ref (a 0)), (1, .int (nI x)), (2, .long set)] [] := by
    intro n
    induction n with
    | zero =>
      intro i f hi hf
      refine z_iload (pc := 6) K d_M_there_6 rfl ?_
      refine z_aload_n (pc := 8) K d_M_there_8 rfl ?_
      refine z_get (pc := 9) K (ref := "DemandTermsModel") d_M_there_9 hi_M 0 rfl rfl 1 (by decide) k473 rfl rfl ?_
      refine z_iload_n (pc := 12) K d_M_there_12 rfl ?_
      refine z_iald (pc := 13) K d_M_there_13 1 0 rfl rfl (vp_in_nI hx (by decide)) ?_
      refine z_eqi (y := nI (mV v x)) (by rw [nI_clamp (show x < 2 ^ 31 by omega)]) ?_
      refine z_icmp_ge (pc := 14) K (tgt := 34) d_M_there_14 (by decide) (fun c14 => ?_) (fun c14 => ?_)
      · refine z_lload (pc := 34) K d_M_there_34 rfl ?_
        exact z_retl (pc := 36) ret d_M_there_36 (by rw [hf, show i = mV v x by omega]) rfl
      · exact absurd (nI_le (a := (mV v x)) (b := i) (by omega) (by omega)) c14
    | succ n ih =>
      intro i f hi hf
      refine z_iload (pc := 6) K d_M_there_6 rfl ?_
      refine z_aload_n (pc := 8) K d_M_there_8 rfl ?_
      refine z_get (pc := 9) K (ref := "DemandTermsModel") d_M_there_9 hi_M 0 rfl rfl 1 (by decide) k473 rfl rfl ?_
      refine z_iload_n (pc := 12) K d_M_there_12 rfl ?_
      refine z_iald (pc := 13) K d_M_there_13 1 0 rfl rfl (vp_in_nI hx (by decide)) ?_
      refine z_eqi (y := nI (mV v x)) (by rw [nI_clamp (show x < 2 ^ 31 by omega)]) ?_
      refine z_icmp_ge (pc := 14) K (tgt := 34) d_M_there_14 (by decide) (fun c14 => ?_) (fun c14 => ?_)
      · exact absurd c14 (nI_ge (a := i) (b := (mV v x)) (by omega) (by omega))
      · refine z_lload (pc := 17) K d_M_there_17 rfl ?_
        refine z_lload_n (pc := 19) K d_M_there_19 rfl ?_
        refine z_lconst (pc := 20) K (v := 1) d_M_there_20 (by decide) ?_
        refine z_iload (pc := 21) K d_M_there_21 rfl ?_
        refine z_lshl (pc := 23) K d_M_there_23 ?_
        refine z_land (pc := 24) K d_M_there_24 ?_
        refine z_lor (pc := 25) K d_M_there_25 ?_
        refine z_lstore (pc := 26) K d_M_there_26 (by decide) rfl ?_
        refine z_iinc (pc := 28) K (v := nI (i + 1)) d_M_there_28 1 rfl (inc1 i) (by decide) rfl ?_
        refine z_goto (pc := 31) K (tgt := 6) d_M_there_31 (by decide) ?_
        refine z_lv [0, 1, 2, 3, 4] rfl ?_
        exact ih (i + 1) _ (by omega) (by rw [thS, hf]; rfl)
  refine z_lv [0, 1, 2, 3, 4] rfl ?_
  exact LP _ 0 0 (Nat.zero_add _) rfl
set_option maxRecDepth 100000 in
set_option maxHeartbeats 4000000 in
theorem m_needs_c (v : MS) (x : Int32) (ver : Int32) (o : Int32) (set : Int64) (kd : Int32) (hm : mOk v) : MI l D vwCl (CT cI cJ cC cZ) (MW a cI cJ cZ) y_M_needs (wA y_M_needs prog_8_method_25_code 7 (some .boolean)) { frames := 1, cells := 0, slots := 0, locals := 26 } [.ref (a 0), .int x, .int ver, .int o, .long set, .int kd] v (bI (m_ndOk v x ver o kd)) (m_nd v x ver o set kd) := by
  refine MI.ofZ (cc := prog_8_method_25_code) (nL := 7) (by decide) rfl (Nat.le_of_ble_eq_true rfl) ?_
  intro p e s m below meth c A Q K ret
  refine z_lvE (lv' := [(0, .ref (a 0)), (1, .int x), (2, .int ver), (3, .int o), (4, .long set), (6, .int kd)]) rfl ?_
  obtain ⟨⟨hm1, hm2, hm3, hm4⟩, hmV, hmn, hmq, hmp⟩ := id hm
  refine z_aload_n (pc := 0) K d_M_needs_0 rfl ?_
  refine z_iconst (pc := 1) K (v := 0) d_M_needs_1 (by decide) ?_
  refine z_put (pc := 2) K (ref := "DemandTermsModel") (ws' := (MW a cI cJ cZ v)) d_M_needs_2 hi_M ty_M ty_M_ok nm_M 0 rfl rfl 0 (by decide) k472 rfl rfl rfl rfl rfl (Nat.le_of_ble_eq_true rfl) rfl ?_
  refine z_aload_n (pc := 5) K d_M_needs_5 rfl ?_
  refine z_iload_n (pc := 6) K d_M_needs_6 rfl ?_
  refine z_cVi (pc := 7) K 0 (m_isName_c _ _ ) (cwA K 1 k556 k558 ks15 k7 k559 q_M_isName ⟨Nat.le_of_ble_eq_true rfl, Nat.le_of_ble_eq_true rfl⟩) d_M_needs_7 rfl rfl rfl rfl rfl (Nat.le_of_ble_eq_true rfl) ⟨Nat.le_of_ble_eq_true rfl, Nat.le_of_ble_eq_true rfl⟩ ?_
  refine z_ifb_eq (pc := 10) K (tgt := 62) d_M_needs_10 (by decide) (fun c10 => ?_) (fun c10 => ?_)
  · refine z_iconst (pc := 62) K (v := 0) d_M_needs_62 (by decide) ?_
    refine z_eqi (y := bI false) rfl ?_
    exact z_reti (pc := 63) ret d_M_needs_63 (by simp [m_nd, m_ndOk, c10]) (by simp [m_nd, m_ndOk, c10])
  · refine z_iload_n (pc := 13) K d_M_needs_13 rfl ?_
    refine z_if_lt (pc := 14) K (tgt := 62) d_M_needs_14 (by decide) (fun c14 => ?_) (fun c14 => ?_)
    · refine z_iconst (pc := 62) K (v := 0) d_M_needs_62 (by decide) ?_
      refine z_eqi (y := bI false) rfl ?_
      exact z_reti (pc := 63) ret d_M_needs_63 (by simp [m_nd, m_ndOk, c10, c14]) (by simp [m_nd, m_ndOk, c10, c14])
    · refine z_iload_n (pc := 17) K d_M_needs_17 rfl ?_
      refine z_aload_n (pc := 18) K d_M_needs_18 rfl ?_
      refine z_get (pc := 19) K (ref := "DemandTermsModel") d_M_needs_19 hi_M 0 rfl rfl 1 (by decide) k473 rfl rfl ?_
      refine z_iload_n (pc := 22) K d_M_needs_22 rfl ?_
      refine z_iald (pc := 23) K d_M_needs_23 1 0 rfl rfl (hasIx_in c10 hm1 (by decide)) ?_
      refine z_icmp_ge (pc := 24) K (tgt := 62) d_M_needs_24 (by decide) (fun c24 => ?_) (fun c24 => ?_)
      · refine z_iconst (pc := 62) K (v := 0) d_M_needs_62 (by decide) ?_
        refine z_eqi (y := bI false) rfl ?_
        exact z_reti (pc := 63) ret d_M_needs_63 (by simp [m_nd, m_ndOk, c10, c14, c24]) (by simp [m_nd, m_ndOk, c10, c14, c24])
      · refine z_aload_n (pc := 27) K d_M_needs_27 rfl ?_
        refine z_iload_n (pc := 28) K d_M_needs_28 rfl ?_
        refine z_cVi (pc := 29) K 0 (m_isName_c _ _ ) (cwA K 1 k556 k558 ks15 k7 k559 q_M_isName ⟨Nat.le_of_ble_eq_true rfl, Nat.le_of_ble_eq_true rfl⟩) d_M_needs_29 rfl rfl rfl rfl rfl (Nat.le_of_ble_eq_true rfl) ⟨Nat.le_of_ble_eq_true rfl, Nat.le_of_ble_eq_true rfl⟩ ?_
        refine z_ifb_eq (pc := 32) K (tgt := 62) d_M_needs_32 (by decide) (fun c32 => ?_) (fun c32 => ?_)
        · refine z_iconst (pc := 62) K (v := 0) d_M_needs_62 (by decide) ?_
          refine z_eqi (y := bI false) rfl ?_
          exact z_reti (pc := 63) ret d_M_needs_63 (by simp [m_nd, m_ndOk, c10, c14, c24, c32]) (by simp [m_nd, m_ndOk, c10, c14, c24, c32])
        · refine z_iload_n (pc := 35) K d_M_needs_35 rfl ?_
          refine z_iload_n (pc := 36) K d_M_needs_36 rfl ?_
          refine z_icmp_eq (pc := 37) K (tgt := 62) d_M_needs_37 (by decide) (fun c37 => ?_) (fun c37 => ?_)
          · refine z_iconst (pc := 62) K (v := 0) d_M_needs_62 (by decide) ?_
            refine z_eqi (y := bI false) rfl ?_
            exact z_reti (pc := 63) ret d_M_needs_63 (by simp [m_nd, m_ndOk, c10, c14, c24, c32, c37]) (by simp [m_nd, m_ndOk, c10, c14, c24, c32, c37])
          · refine z_iload (pc := 40) K d_M_needs_40 rfl ?_
            refine z_if_lt (pc := 42) K (tgt := 62) d_M_needs_42 (by decide) (fun c42 => ?_) (fun c42 => ?_)
            · refine z_iconst (pc := 62) K (v := 0) d_M_needs_62 (by decide) ?_
              refine z_eqi (y := bI false) rfl ?_
              exact z_reti (pc := 63) ret d_M_needs_63 (by simp [m_nd, m_ndOk, c10, c14, c24, c32, c37, c42]) (by simp [m_nd, m_ndOk, c10, c14, c24, c32, c37, c42])
            · refine z_iload (pc := 45) K d_M_needs_45 rfl ?_
              refine z_bipush (pc := 47) K (v := 8) d_M_needs_47 (by decide) ?_
              refine z_icmp_ge (pc := 49) K (tgt := 62) d_M_needs_49 (by decide) (fun c49 => ?_) (fun c49 => ?_)
              · refine z_iconst (pc := 62) K (v := 0) d_M_needs_62 (by decide) ?_
                refine z_eqi (y := bI false) rfl ?_
                exact z_reti (pc := 63) ret d_M_needs_63 (by simp [m_nd, m_ndOk, c10, c14, c24, c32, c37, c42, c49]) (by simp [m_nd, m_ndOk, c10, c14, c24, c32, c37, c42, c49])
              · refine z_aload_n (pc := 52) K d_M_needs_52 rfl ?_
                refine z_get (pc := 53) K (ref := "DemandTermsModel") d_M_needs_53 hi_M 0 rfl rfl 5 (by decide) k477 rfl rfl ?_
                refine z_sipush (pc := 56) K (v := 400) d_M_needs_56 (by decide) ?_
                refine z_icmp_ne (pc := 59) K (tgt := 64) d_M_needs_59 (by decide) (fun c59 => ?_) (fun c59 => ?_)
                · have hlt : mD v < 400 := Nat.lt_of_le_of_ne hm4 (fun q => c59 (by rw [q] <;> rfl))
                  obtain ⟨ex, hx⟩ := hasIx_self (by omega) c10
                  obtain ⟨eo, ho⟩ := hasIx_self (by omega) c32
                  refine z_aload_n (pc := 64) K d_M_needs_64 rfl ?_
                  refine z_get (pc := 65) K (ref := "DemandTermsModel") d_M_needs_65 hi_M 0 rfl rfl 15 (by decide) k487 rfl rfl ?_
                  refine z_aload_n (pc := 68) K d_M_needs_68 rfl ?_
                  refine z_get (pc := 69) K (ref := "DemandTermsModel") d_M_needs_69 hi_M 0 rfl rfl 5 (by decide) k477 rfl rfl ?_
                  refine z_iload_n (pc := 72) K d_M_needs_72 rfl ?_
                  refine z_eqi ex ?_
                  refine z_iast (pc := 73) K (ws' := (MW a cI cJ cZ (sQ v (updN (qN (mQ v)) (mD v) x.toNatClampNeg, qV (mQ v), qO (mQ v), qK (mQ v), qS (mQ v))))) d_M_needs_73 11 0 rfl rfl (vp_in_nI hlt (by decide)) (by rw [nI_clamp (show (mD v) < 2 ^ 31 by omega), w_nI]; rfl) ?_
                  refine z_aload_n (pc := 74) K d_M_needs_74 rfl ?_
                  refine z_get (pc := 75) K (ref := "DemandTermsModel") d_M_needs_75 hi_M 0 rfl rfl 16 (by decide) k488 rfl rfl ?_
                  refine z_aload_n (pc := 78) K d_M_needs_78 rfl ?_
                  refine z_get (pc := 79) K (ref := "DemandTermsModel") d_M_needs_79 hi_M 0 rfl rfl 5 (by decide) k477 rfl rfl ?_
                  refine z_iload_n (pc := 82) K d_M_needs_82 rfl ?_
                  refine z_eqi (nI_self c14) ?_
                  refine z_iast (pc := 83) K (ws' := (MW a cI cJ cZ (sQ v (updN (qN (mQ v)) (mD v) x.toNatClampNeg, updN (qV (mQ v)) (mD v) ver.toNatClampNeg, qO (mQ v), qK (mQ v), qS (mQ v))))) d_M_needs_83 12 0 rfl rfl (vp_in_nI hlt (by decide)) (by rw [show (nI (mD (sQ v (updN (qN (mQ v)) (mD v) x.toNatClampNeg, qV (mQ v), qO (mQ v), qK (mQ v), qS (mQ v))))).toNatClampNeg = mD v from nI_clamp (show (mD v) < 2 ^ 31 by omega), w_nI]; rfl) ?_
                  refine z_aload_n (pc := 84) K d_M_needs_84 rfl ?_
                  refine z_get (pc := 85) K (ref := "DemandTermsModel") d_M_needs_85 hi_M 0 rfl rfl 17 (by decide) k489 rfl rfl ?_
                  refine z_aload_n (pc := 88) K d_M_needs_88 rfl ?_
                  refine z_get (pc := 89) K (ref := "DemandTermsModel") d_M_needs_89 hi_M 0 rfl rfl 5 (by decide) k477 rfl rfl ?_
                  refine z_iload_n (pc := 92) K d_M_needs_92 rfl ?_
                  refine z_eqi eo ?_
                  refine z_iast (pc := 93) K (ws' := (MW a cI cJ cZ (sQ v (updN (qN (mQ v)) (mD v) x.toNatClampNeg, updN (qV (mQ v)) (mD v) ver.toNatClampNeg, updN (qO (mQ v)) (mD v) o.toNatClampNeg, qK (mQ v), qS (mQ v))))) d_M_needs_93 13 0 rfl rfl (vp_in_nI hlt (by decide)) (by rw [show (nI (mD (sQ v (updN (qN (mQ v)) (mD v) x.toNatClampNeg, updN (qV (mQ v)) (mD v) ver.toNatClampNeg, qO (mQ v), qK (mQ v), qS (mQ v))))).toNatClampNeg = mD v from nI_clamp (show (mD v) < 2 ^ 31 by omega), w_nI]; rfl) ?_
                  refine z_aload_n (pc := 94) K d_M_needs_94 rfl ?_
                  refine z_get (pc := 95) K (ref := "DemandTermsModel") d_M_needs_95 hi_M 0 rfl rfl 19 (by decide) k491 rfl rfl ?_
                  refine z_aload_n (pc := 98) K d_M_needs_98 rfl ?_
                  refine z_get (pc := 99) K (ref := "DemandTermsModel") d_M_needs_99 hi_M 0 rfl rfl 5 (by decide) k477 rfl rfl ?_
                  refine z_aload_n (pc := 102) K d_M_needs_102 rfl ?_
                  refine z_iload_n (pc := 103) K d_M_needs_103 rfl ?_
                  refine z_eqi eo ?_
                  refine z_lload (pc := 104) K d_M_needs_104 rfl ?_
                  refine z_cVl (pc := 106) K 0 (m_there_c _ o.toNatClampNeg _ (by omega) (hmV _)) (cwA K 2 k616 k618 ks25 k7 k619 q_M_there ⟨Nat.le_of_ble_eq_true rfl, Nat.le_of_ble_eq_true rfl⟩) d_M_needs_106 rfl rfl rfl rfl rfl (Nat.le_of_ble_eq_true rfl) ⟨Nat.le_of_ble_eq_true rfl, Nat.le_of_ble_eq_true rfl⟩ ?_
                  refine z_last (pc := 109) K (ws' := (MW a cI cJ cZ (sQ v (updN (qN (mQ v)) (mD v) x.toNatClampNeg, updN (qV (mQ v)) (mD v) ver.toNatClampNeg, updN (qO (mQ v)) (mD v) o.toNatClampNeg, qK (mQ v), vp_updL (qS (mQ v)) (nI (mD v)).toNatClampNeg (thS set (mV v o.toNatClampNeg)))))) d_M_needs_109 15 1 rfl rfl (vp_in_nI hlt (by decide)) rfl ?_
                  refine z_aload_n (pc := 110) K d_M_needs_110 rfl ?_
                  refine z_get (pc := 111) K (ref := "DemandTermsModel") d_M_needs_111 hi_M 0 rfl rfl 18 (by decide) k490 rfl rfl ?_
                  refine z_aload_n (pc := 114) K d_M_needs_114 rfl ?_
                  refine z_get (pc := 115) K (ref := "DemandTermsModel") d_M_needs_115 hi_M 0 rfl rfl 5 (by decide) k477 rfl rfl ?_
                  refine z_iload (pc := 118) K d_M_needs_118 rfl ?_
                  refine z_iast (pc := 120) K (ws' := (MW a cI cJ cZ (sQ v (updN (qN (mQ v)) (mD v) x.toNatClampNeg, updN (qV (mQ v)) (mD v) ver.toNatClampNeg, updN (qO (mQ v)) (mD v) o.toNatClampNeg, upd (qK (mQ v)) (nI (mD v)).toNatClampNeg kd, vp_updL (qS (mQ v)) (nI (mD v)).toNatClampNeg (thS set (mV v o.toNatClampNeg)))))) d_M_needs_120 14 0 rfl rfl (vp_in_nI hlt (by decide)) rfl ?_
                  refine z_aload_n (pc := 121) K d_M_needs_121 rfl ?_
                  refine z_dup (pc := 122) K d_M_needs_122 rfl ?_
                  refine z_get (pc := 123) K (ref := "DemandTermsModel") d_M_needs_123 hi_M 0 rfl rfl 5 (by decide) k477 rfl rfl ?_
                  refine z_iconst (pc := 126) K (v := 1) d_M_needs_126 (by decide) ?_
                  refine z_iadd (pc := 127) K d_M_needs_127 ?_
                  refine z_eqi (nI_1 _) ?_
                  refine z_put (pc := 128) K (ref := "DemandTermsModel") (ws' := (MW a cI cJ cZ (sK (sQ v (updN (qN (mQ v)) (mD v) x.toNatClampNeg, updN (qV (mQ v)) (mD v) ver.toNatClampNeg, updN (qO (mQ v)) (mD v) o.toNatClampNeg, upd (qK (mQ v)) (nI (mD v)).toNatClampNeg kd, vp_updL (qS (mQ v)) (nI (mD v)).toNatClampNeg (thS set (mV v o.toNatClampNeg)))) (mN v, mT v, mB v, mD v + 1)))) d_M_needs_128 hi_M ty_M ty_M_ok nm_M 0 rfl rfl 5 (by decide) k477 rfl rfl rfl rfl rfl (Nat.le_of_ble_eq_true rfl) rfl ?_
                  refine z_iconst (pc := 131) K (v := 1) d_M_needs_131 (by decide) ?_
                  refine z_eqi (y := bI true) rfl ?_
                  exact z_reti (pc := 132) ret d_M_needs_132 (by simp [m_ndOk, c10, c14, c24, c32, c37, c42, c49, c59]) (by rw [m_nd, if_pos (show m_ndOk v x ver o kd = true by simp [m_ndOk, c10, c14, c24, c32, c37, c42, c49, c59]), m_ndQ, nI_clamp (show (mD v) < 2 ^ 31 by omega)] <;> rfl)
                · refine z_iconst (pc := 62) K (v := 0) d_M_needs_62 (by decide) ?_
                  refine z_eqi (y := bI false) rfl ?_
                  exact z_reti (pc := 63) ret d_M_needs_63 (by simp [m_nd, m_ndOk, c10, c14, c24, c32, c37, c42, c49, c59]) (by simp [m_nd, m_ndOk, c10, c14, c24, c32, c37, c42, c49, c59])
set_option maxRecDepth 100000 in
set_option maxHeartbeats 4000000 in
theorem m_isAlike_c (v : MS) (k : Nat) (ver : Nat) (y : Nat) (hk : k < 400) (hy : y < 400) : MI l D vwCl (CT cI cJ cC cZ) (MW a cI cJ cZ) y_M_isAlike (wA y_M_isAlike prog_8_method_26_code 4 (some .boolean)) { frames := 0, cells := 0, slots := 0, locals := 0 } [.ref (a 0), .int (nI k), .int (nI ver), .int (nI y)] v (bI (m_al (mQ v) k ver y)) (v) := by
  refine MI.ofZ (cc := prog_8_method_26_code) (nL := 4) (by decide) rfl (Nat.le_of_ble_eq_true rfl) ?_
  intro p e s m below meth c A Q K ret
  refine z_lvE (lv' := [(0, .ref (a 0)), (1, .int (nI k)), (2, .int (nI ver)), (3, .int (nI y))]) rfl ?_
  refine z_aload_n (pc := 0) K d_M_isAlike_0 rfl ?_
  refine z_get (pc := 1) K (ref := "DemandTermsModel") d_M_isAlike_1 hi_M 0 rfl rfl 15 (by decide) k487 rfl rfl ?_
  refine z_iload_n (pc := 4) K d_M_isAlike_4 rfl ?_
  refine z_iald (pc := 5) K d_M_isAlike_5 11 0 rfl rfl (vp_in_nI hk (by decide)) ?_
  refine z_eqi (y := nI (qN (mQ v) k)) (by rw [nI_clamp (show k < 2 ^ 31 by omega)] <;> rfl) ?_
  refine z_aload_n (pc := 6) K d_M_isAlike_6 rfl ?_
  refine z_get (pc := 7) K (ref := "DemandTermsModel") d_M_isAlike_7 hi_M 0 rfl rfl 15 (by decide) k487 rfl rfl ?_
  refine z_iload_n (pc := 10) K d_M_isAlike_10 rfl ?_
  refine z_iald (pc := 11) K d_M_isAlike_11 11 0 rfl rfl (vp_in_nI hy (by decide)) ?_
  refine z_eqi (y := nI (qN (mQ v) y)) (by rw [nI_clamp (show y < 2 ^ 31 by omega)] <;> rfl) ?_
  refine z_icmp_ne (pc := 12) K (tgt := 75) d_M_isAlike_12 (by decide) (fun c12 => ?_) (fun c12 => ?_)
  · refine z_iconst (pc := 75) K (v := 0) d_M_isAlike_75 (by decide) ?_
    refine z_eqi (y := bI false) rfl ?_
    exact z_reti (pc := 76) ret d_M_isAlike_76 (by simp [m_al, c12]) rfl
  · refine z_aload_n (pc := 15) K d_M_isAlike_15 rfl ?_
    refine z_get (pc := 16) K (ref := "DemandTermsModel") d_M_isAlike_16 hi_M 0 rfl rfl 16 (by decide) k488 rfl rfl ?_
    refine z_iload_n (pc := 19) K d_M_isAlike_19 rfl ?_
    refine z_iald (pc := 20) K d_M_isAlike_20 12 0 rfl rfl (vp_in_nI hk (by decide)) ?_
    refine z_eqi (y := nI (qV (mQ v) k)) (by rw [nI_clamp (show k < 2 ^ 31 by omega)] <;> rfl) ?_
    refine z_iload_n (pc := 21) K d_M_isAlike_21 rfl ?_
    refine z_icmp_ne (pc := 22) K (tgt := 75) d_M_isAlike_22 (by decide) (fun c22 => ?_) (fun c22 => ?_)
    · refine z_iconst (pc := 75) K (v := 0) d_M_isAlike_75 (by decide) ?_
      refine z_eqi (y := bI false) rfl ?_
      exact z_reti (pc := 76) ret d_M_isAlike_76 (by simp [m_al, c12, c22]) rfl
    · refine z_aload_n (pc := 25) K d_M_isAlike_25 rfl ?_
      refine z_get (pc := 26) K (ref := "DemandTermsModel") d_M_isAlike_26 hi_M 0 rfl rfl 17 (by decide) k489 rfl rfl ?_
      refine z_iload_n (pc := 29) K d_M_isAlike_29 rfl ?_
      refine z_iald (pc := 30) K d_M_isAlike_30 13 0 rfl rfl (vp_in_nI hk (by decide)) ?_
      refine z_eqi (y := nI (qO (mQ v) k)) (by rw [nI_clamp (show k < 2 ^ 31 by omega)] <;> rfl) ?_
      refine z_aload_n (pc := 31) K d_M_isAlike_31 rfl ?_
      refine z_get (pc := 32) K (ref := "DemandTermsModel") d_M_isAlike_32 hi_M 0 rfl rfl 17 (by decide) k489 rfl rfl ?_
      refine z_iload_n (pc := 35) K d_M_isAlike_35 rfl ?_
      refine z_iald (pc := 36) K d_M_isAlike_36 13 0 rfl rfl (vp_in_nI hy (by decide)) ?_
      refine z_eqi (y := nI (qO (mQ v) y)) (by rw [nI_clamp (show y < 2 ^ 31 by omega)] <;> rfl) ?_
      refine z_icmp_ne (pc := 37) K (tgt := 75) d_M_isAlike_37 (by decide) (fun c37 => ?_) (fun c37 => ?_)
      · refine z_iconst (pc := 75) K (v := 0) d_M_isAlike_75 (by decide) ?_
        refine z_eqi (y := bI false) rfl ?_
        exact z_reti (pc := 76) ret d_M_isAlike_76 (by simp [m_al, c12, c22, c37]) rfl
      · refine z_aload_n (pc := 40) K d_M_isAlike_40 rfl ?_
        refine z_get (pc := 41) K (ref := "DemandTermsModel") d_M_isAlike_41 hi_M 0 rfl rfl 19 (by decide) k491 rfl rfl ?_
        refine z_iload_n (pc := 44) K d_M_isAlike_44 rfl ?_
        refine z_lald (pc := 45) K d_M_isAlike_45 15 1 rfl rfl (vp_in_nI hk (by decide)) ?_
        refine z_eql (y := qS (mQ v) k) (by rw [nI_clamp (show k < 2 ^ 31 by omega)] <;> rfl) ?_
        refine z_aload_n (pc := 46) K d_M_isAlike_46 rfl ?_
        refine z_get (pc := 47) K (ref := "DemandTermsModel") d_M_isAlike_47 hi_M 0 rfl rfl 19 (by decide) k491 rfl rfl ?_
        refine z_iload_n (pc := 50) K d_M_isAlike_50 rfl ?_
        refine z_lald (pc := 51) K d_M_isAlike_51 15 1 rfl rfl (vp_in_nI hy (by decide)) ?_
        refine z_eql (y := qS (mQ v) y) (by rw [nI_clamp (show y < 2 ^ 31 by omega)] <;> rfl) ?_
        refine z_lcmp (pc := 52) K d_M_isAlike_52 ?_
        refine z_ifl_ne (pc := 53) K (tgt := 75) d_M_isAlike_53 (by decide) (fun c53 => ?_) (fun c53 => ?_)
        · refine z_iconst (pc := 75) K (v := 0) d_M_isAlike_75 (by decide) ?_
          refine z_eqi (y := bI false) rfl ?_
          exact z_reti (pc := 76) ret d_M_isAlike_76 (by simp [m_al, c12, c22, c37, c53]) rfl
        · refine z_aload_n (pc := 56) K d_M_isAlike_56 rfl ?_
          refine z_get (pc := 57) K (ref := "DemandTermsModel") d_M_isAlike_57 hi_M 0 rfl rfl 18 (by decide) k490 rfl rfl ?_
          refine z_iload_n (pc := 60) K d_M_isAlike_60 rfl ?_
          refine z_iald (pc := 61) K d_M_isAlike_61 14 0 rfl rfl (vp_in_nI hk (by decide)) ?_
          refine z_eqi (y := qK (mQ v) k) (by rw [nI_clamp (show k < 2 ^ 31 by omega)] <;> rfl) ?_
          refine z_aload_n (pc := 62) K d_M_isAlike_62 rfl ?_
          refine z_get (pc := 63) K (ref := "DemandTermsModel") d_M_isAlike_63 hi_M 0 rfl rfl 18 (by decide) k490 rfl rfl ?_
          refine z_iload_n (pc := 66) K d_M_isAlike_66 rfl ?_
          refine z_iald (pc := 67) K d_M_isAlike_67 14 0 rfl rfl (vp_in_nI hy (by decide)) ?_
          refine z_eqi (y := qK (mQ v) y) (by rw [nI_clamp (show y < 2 ^ 31 by omega)] <;> rfl) ?_
          refine z_icmp_ne (pc := 68) K (tgt := 75) d_M_isAlike_68 (by decide) (fun c68 => ?_) (fun c68 => ?_)
          · refine z_iconst (pc := 75) K (v := 0) d_M_isAlike_75 (by decide) ?_
            refine z_eqi (y := bI false) rfl ?_
            exact z_reti (pc := 76) ret d_M_isAlike_76 (by simp [m_al, c12, c22, c37, c53, c68]) rfl
          · refine z_iconst (pc := 71) K (v := 1) d_M_isAlike_71 (by decide) ?_
            refine z_goto (pc := 72) K (tgt := 76) d_M_isAlike_72 (by decide) ?_
            refine z_eqi (y := bI true) rfl ?_
            exact z_reti (pc := 76) ret d_M_isAlike_76 (by simp [m_al, c12, c22, c37, c53, c68]) rfl
set_option maxRecDepth 100000 in
set_option maxHeartbeats 4000000 in
theorem m_has_c (v : MS) (ver : Nat) (y : Nat) (hd : mD v ≤ 400) (hy : y < 400) : MI l D vwCl (CT cI cJ cC cZ) (MW a cI cJ cZ) y_M_has (wA y_M_has prog_8_method_27_code 5 (some .boolean)) { frames := 1, cells := 0, slots := 0, locals := 23 } [.ref (a 0), .int (nI ver), .int (nI y)] v (bI (m_has v ver y)) (v) := by
  refine MI.ofZ (cc := prog_8_method_27_code) (nL := 5) (by decide) rfl (Nat.le_of_ble_eq_true rfl) ?_
  intro p e s m below meth c A Q K ret
  refine z_lvE (lv' := [(0, .ref (a 0)), (1, .int (nI ver)), (2, .int (nI y))]) rfl ?_
  refine z_iconst (pc := 0) K (v := 0) d_M_has_0 (by decide) ?_
  refine z_istore_n (pc := 1) K d_M_has_1 rfl (by decide) rfl ?_
  refine z_iconst (pc := 2) K (v := 0) d_M_has_2 (by decide) ?_
  refine z_istore (pc := 3) K d_M_has_3 (by decide) rfl ?_
  have LP : ∀ (n i : Nat) (f : Bool), i + n = mD v → f = anyB (fun k => m_al (mQ v) k ver y) i → zW p l e { frames := 1, cells := 0, slots := 0, locals := 23 } s m [.ref (a 0), .int (nI ver), .int (nI y)].toArray below meth c D vwCl A 5 0 0 Q (MW a cI cJ cZ v) 5 [(4, .int (nI i)), (3, .int (bI f)), (0, .ref (a 0)), (1, .int (nI ver)), (2, .int (nI y))] [] := by
    intro n
    induction n with
    | zero =>
      intro i f hi hf
      refine z_iload (pc := 5) K d_M_has_5 rfl ?_
      refine z_aload_n (pc := 7) K d_M_has_7 rfl ?_
      refine z_get (pc := 8) K (ref := "DemandTermsModel") d_M_has_8 hi_M 0 rfl rfl 5 (by decide) k477 rfl rfl ?_
      refine z_icmp_ge (pc := 11) K (tgt := 41) d_M_has_11 (by decide) (fun c11 => ?_) (fun c11 => ?_)
      · refine z_iload_n (pc := 41) K d_M_has_41 rfl ?_
        exact z_reti (pc := 42) ret d_M_has_42 (by rw [hf, m_has, show i = mD v by omega]) rfl
      · exact absurd (nI_le (a := (mD v)) (b := i) (by omega) (by omega)) c11
    | succ n ih =>
      intro i f hi hf
      refine z_iload (pc := 5) K d_M_has_5 rfl ?_
      refine z_aload_n (pc := 7) K d_M_has_7 rfl ?_
      refine z_get (pc := 8) K (ref := "DemandTermsModel") d_M_has_8 hi_M 0 rfl rfl 5 (by decide) k477 rfl rfl ?_
      refine z_icmp_ge (pc := 11) K (tgt := 41) d_M_has_11 (by decide) (fun c11 => ?_) (fun c11 => ?_)
      · exact absurd c11 (nI_ge (a := i) (b := (mD v)) (by omega) (by omega))
      · refine z_iload_n (pc := 14) K d_M_has_14 rfl ?_
        refine z_ifb_ne (pc := 15) K (tgt := 29) d_M_has_15 (by decide) (fun c15 => ?_) (fun c15 => ?_)
        · refine z_iconst (pc := 29) K (v := 1) d_M_has_29 (by decide) ?_
          refine z_goto (pc := 30) K (tgt := 34) d_M_has_30 (by decide) ?_
          refine z_eqi (y := bI true) rfl ?_
          refine z_istore_n (pc := 34) K d_M_has_34 rfl (by decide) rfl ?_
          refine z_iinc (pc := 35) K (v := nI (i + 1)) d_M_has_35 1 rfl (inc1 i) (by decide) rfl ?_
          refine z_goto (pc := 38) K (tgt := 5) d_M_has_38 (by decide) ?_
          refine z_lv [0, 1, 2, 3, 4] rfl ?_
          exact ih (i + 1) _ (by omega) (by rw [anyB, ← hf]; simp [c15])
        · refine z_aload_n (pc := 18) K d_M_has_18 rfl ?_
          refine z_iload (pc := 19) K d_M_has_19 rfl ?_
          refine z_iload_n (pc := 21) K d_M_has_21 rfl ?_
          refine z_iload_n (pc := 22) K d_M_has_22 rfl ?_
          refine z_cVi (pc := 23) K 0 (m_isAlike_c _ i ver y (by omega) hy) (cwA K 3 k640 k642 ks30 k7 k643 q_M_isAlike ⟨Nat.le_of_ble_eq_true rfl, Nat.le_of_ble_eq_true rfl⟩) d_M_has_23 rfl rfl rfl rfl rfl (Nat.le_of_ble_eq_true rfl) ⟨Nat.le_of_ble_eq_true rfl, Nat.le_of_ble_eq_true rfl⟩ ?_
          refine z_ifb_eq (pc := 26) K (tgt := 33) d_M_has_26 (by decide) (fun c26 => ?_) (fun c26 => ?_)
          · refine z_iconst (pc := 33) K (v := 0) d_M_has_33 (by decide) ?_
            refine z_eqi (y := bI false) rfl ?_
            refine z_istore_n (pc := 34) K d_M_has_34 rfl (by decide) rfl ?_
            refine z_iinc (pc := 35) K (v := nI (i + 1)) d_M_has_35 1 rfl (inc1 i) (by decide) rfl ?_
            refine z_goto (pc := 38) K (tgt := 5) d_M_has_38 (by decide) ?_
            refine z_lv [0, 1, 2, 3, 4] rfl ?_
            exact ih (i + 1) _ (by omega) (by rw [anyB, ← hf]; simp [c15, c26])
          · refine z_iconst (pc := 29) K (v := 1) d_M_has_29 (by decide) ?_
            refine z_goto (pc := 30) K (tgt := 34) d_M_has_30 (by decide) ?_
            refine z_eqi (y := bI true) rfl ?_
            refine z_istore_n (pc := 34) K d_M_has_34 rfl (by decide) rfl ?_
            refine z_iinc (pc := 35) K (v := nI (i + 1)) d_M_has_35 1 rfl (inc1 i) (by decide) rfl ?_
            refine z_goto (pc := 38) K (tgt := 5) d_M_has_38 (by decide) ?_
            refine z_lv [0, 1, 2, 3, 4] rfl ?_
            exact ih (i + 1) _ (by omega) (by rw [anyB, ← hf]; simp [c15, c26])
  refine z_lv [0, 1, 2, 3, 4] rfl ?_
  exact LP _ 0 false (Nat.zero_add _) rfl
set_option maxRecDepth 100000 in
set_option maxHeartbeats 4000000 in
theorem m_isDerived_c (v : MS) (y : Nat) (bf : Nat) (hy : y < 400) (hb : bf ≤ 300) : MI l D vwCl (CT cI cJ cC cZ) (MW a cI cJ cZ) y_M_isDerived (wA y_M_isDerived prog_8_method_28_code 5 (some .boolean)) { frames := 0, cells := 0, slots := 0, locals := 0 } [.ref (a 0), .int (nI y), .int (nI bf)] v (bI (m_isD v y bf)) (v) := by
  refine MI.ofZ (cc := prog_8_method_28_code) (nL := 5) (by decide) rfl (Nat.le_of_ble_eq_true rfl) ?_
  intro p e s m below meth c A Q K ret
  refine z_lvE (lv' := [(0, .ref (a 0)), (1, .int (nI y)), (2, .int (nI bf))]) rfl ?_
  refine z_iconst (pc := 0) K (v := 0) d_M_isDerived_0 (by decide) ?_
  refine z_istore_n (pc := 1) K d_M_isDerived_1 rfl (by decide) rfl ?_
  refine z_iconst (pc := 2) K (v := 0) d_M_isDerived_2 (by decide) ?_
  refine z_istore (pc := 3) K d_M_isDerived_3 (by decide) rfl ?_
  have LP : ∀ (n i : Nat) (f : Bool), i + n = bf → f = anyB (m_dm (mE v) (mQ v) y) i → zW p l e { frames := 0, cells := 0, slots := 0, locals := 0 } s m [.ref (a 0), .int (nI y), .int (nI bf)].toArray below meth c D vwCl A 5 0 0 Q (MW a cI cJ cZ v) 5 [(4, .int (nI i)), (3, .int (bI f)), (0, .ref (a 0)), (1, .int (nI y)), (2, .int (nI bf))] [] := by
    intro n
    induction n with
    | zero =>
      intro i f hi hf
      refine z_iload (pc := 5) K d_M_isDerived_5 rfl ?_
      refine z_iload_n (pc := 7) K d_M_isDerived_7 rfl ?_
      refine z_icmp_ge (pc := 8) K (tgt := 124) d_M_isDerived_8 (by decide) (fun c8 => ?_) (fun c8 => ?_)
      · refine z_iload_n (pc := 124) K d_M_isDerived_124 rfl ?_
        exact z_reti (pc := 125) ret d_M_isDerived_125 (by rw [hf, m_isD, show i = bf by omega]) rfl
      · exact absurd (nI_le (a := bf) (b := i) (by omega) (by omega)) c8
    | succ n ih =>
      intro i f hi hf
      refine z_iload (pc := 5) K d_M_isDerived_5 rfl ?_
      refine z_iload_n (pc := 7) K d_M_isDerived_7 rfl ?_
      refine z_icmp_ge (pc := 8) K (tgt := 124) d_M_isDerived_8 (by decide) (fun c8 => ?_) (fun c8 => ?_)
      · exact absurd c8 (nI_ge (a := i) (b := bf) (by omega) (by omega))
      · refine z_iload_n (pc := 11) K d_M_isDerived_11 rfl ?_
        refine z_ifb_ne (pc := 12) K (tgt := 112) d_M_isDerived_12 (by decide) (fun c12 => ?_) (fun c12 => ?_)
        · refine z_iconst (pc := 112) K (v := 1) d_M_isDerived_112 (by decide) ?_
          refine z_goto (pc := 113) K (tgt := 117) d_M_isDerived_113 (by decide) ?_
          refine z_eqi (y := bI true) rfl ?_
          refine z_istore_n (pc := 117) K d_M_isDerived_117 rfl (by decide) rfl ?_
          refine z_iinc (pc := 118) K (v := nI (i + 1)) d_M_isDerived_118 1 rfl (inc1 i) (by decide) rfl ?_
          refine z_goto (pc := 121) K (tgt := 5) d_M_isDerived_121 (by decide) ?_
          refine z_lv [0, 1, 2, 3, 4] rfl ?_
          exact ih (i + 1) _ (by omega) (by rw [anyB, ← hf]; simp [m_dm, c12])
        · refine z_aload_n (pc := 15) K d_M_isDerived_15 rfl ?_
          refine z_get (pc := 16) K (ref := "DemandTermsModel") d_M_isDerived_16 hi_M 0 rfl rfl 9 (by decide) k481 rfl rfl ?_
          refine z_iload (pc := 19) K d_M_isDerived_19 rfl ?_
          refine z_iald (pc := 21) K d_M_isDerived_21 5 0 rfl rfl (vp_in_nI (by omega) (by decide)) ?_
          refine z_eqi (y := dN (mE v) i) (by rw [nI_clamp (show i < 2 ^ 31 by omega)] <;> rfl) ?_
          refine z_aload_n (pc := 22) K d_M_isDerived_22 rfl ?_
          refine z_get (pc := 23) K (ref := "DemandTermsModel") d_M_isDerived_23 hi_M 0 rfl rfl 15 (by decide) k487 rfl rfl ?_
          refine z_iload_n (pc := 26) K d_M_isDerived_26 rfl ?_
          refine z_iald (pc := 27) K d_M_isDerived_27 11 0 rfl rfl (vp_in_nI hy (by decide)) ?_
          refine z_eqi (y := nI (qN (mQ v) y)) (by rw [nI_clamp (show y < 2 ^ 31 by omega)] <;> rfl) ?_
          refine z_icmp_ne (pc := 28) K (tgt := 116) d_M_isDerived_28 (by decide) (fun c28 => ?_) (fun c28 => ?_)
          · refine z_iconst (pc := 116) K (v := 0) d_M_isDerived_116 (by decide) ?_
            refine z_eqi (y := bI false) rfl ?_
            refine z_istore_n (pc := 117) K d_M_isDerived_117 rfl (by decide) rfl ?_
            refine z_iinc (pc := 118) K (v := nI (i + 1)) d_M_isDerived_118 1 rfl (inc1 i) (by decide) rfl ?_
            refine z_goto (pc := 121) K (tgt := 5) d_M_isDerived_121 (by decide) ?_
            refine z_lv [0, 1, 2, 3, 4] rfl ?_
            exact ih (i + 1) _ (by omega) (by rw [anyB, ← hf]; simp [m_dm, c12, c28])
          · refine z_aload_n (pc := 31) K d_M_isDerived_31 rfl ?_
            refine z_get (pc := 32) K (ref := "DemandTermsModel") d_M_isDerived_32 hi_M 0 rfl rfl 10 (by decide) k482 rfl rfl ?_
            refine z_iload (pc := 35) K d_M_isDerived_35 rfl ?_
            refine z_iald (pc := 37) K d_M_isDerived_37 6 0 rfl rfl (vp_in_nI (by omega) (by decide)) ?_
            refine z_eqi (y := nI (dF (mE v) i)) (by rw [nI_clamp (show i < 2 ^ 31 by omega)] <;> rfl) ?_
            refine z_aload_n (pc := 38) K d_M_isDerived_38 rfl ?_
            refine z_get (pc := 39) K (ref := "DemandTermsModel") d_M_isDerived_39 hi_M 0 rfl rfl 16 (by decide) k488 rfl rfl ?_
            refine z_iload_n (pc := 42) K d_M_isDerived_42 rfl ?_
            refine z_iald (pc := 43) K d_M_isDerived_43 12 0 rfl rfl (vp_in_nI hy (by decide)) ?_
            refine z_eqi (y := nI (qV (mQ v) y)) (by rw [nI_clamp (show y < 2 ^ 31 by omega)] <;> rfl) ?_
            refine z_icmp_gt (pc := 44) K (tgt := 116) d_M_isDerived_44 (by decide) (fun c44 => ?_) (fun c44 => ?_)
            · refine z_iconst (pc := 116) K (v := 0) d_M_isDerived_116 (by decide) ?_
              refine z_eqi (y := bI false) rfl ?_
              refine z_istore_n (pc := 117) K d_M_isDerived_117 rfl (by decide) rfl ?_
              refine z_iinc (pc := 118) K (v := nI (i + 1)) d_M_isDerived_118 1 rfl (inc1 i) (by decide) rfl ?_
              refine z_goto (pc := 121) K (tgt := 5) d_M_isDerived_121 (by decide) ?_
              refine z_lv [0, 1, 2, 3, 4] rfl ?_
              exact ih (i + 1) _ (by omega) (by rw [anyB, ← hf]; simp [m_dm, c12, c28, c44])
            · refine z_aload_n (pc := 47) K d_M_isDerived_47 rfl ?_
              refine z_get (pc := 48) K (ref := "DemandTermsModel") d_M_isDerived_48 hi_M 0 rfl rfl 11 (by decide) k483 rfl rfl ?_
              refine z_iload (pc := 51) K d_M_isDerived_51 rfl ?_
              refine z_iald (pc := 53) K d_M_isDerived_53 7 0 rfl rfl (vp_in_nI (by omega) (by decide)) ?_
              refine z_eqi (y := nI (dL (mE v) i)) (by rw [nI_clamp (show i < 2 ^ 31 by omega)] <;> rfl) ?_
              refine z_aload_n (pc := 54) K d_M_isDerived_54 rfl ?_
              refine z_get (pc := 55) K (ref := "DemandTermsModel") d_M_isDerived_55 hi_M 0 rfl rfl 16 (by decide) k488 rfl rfl ?_
              refine z_iload_n (pc := 58) K d_M_isDerived_58 rfl ?_
              refine z_iald (pc := 59) K d_M_isDerived_59 12 0 rfl rfl (vp_in_nI hy (by decide)) ?_
              refine z_eqi (y := nI (qV (mQ v) y)) (by rw [nI_clamp (show y < 2 ^ 31 by omega)] <;> rfl) ?_
              refine z_icmp_lt (pc := 60) K (tgt := 116) d_M_isDerived_60 (by decide) (fun c60 => ?_) (fun c60 => ?_)
              · refine z_iconst (pc := 116) K (v := 0) d_M_isDerived_116 (by decide) ?_
                refine z_eqi (y := bI false) rfl ?_
                refine z_istore_n (pc := 117) K d_M_isDerived_117 rfl (by decide) rfl ?_
                refine z_iinc (pc := 118) K (v := nI (i + 1)) d_M_isDerived_118 1 rfl (inc1 i) (by decide) rfl ?_
                refine z_goto (pc := 121) K (tgt := 5) d_M_isDerived_121 (by decide) ?_
                refine z_lv [0, 1, 2, 3, 4] rfl ?_
                exact ih (i + 1) _ (by omega) (by rw [anyB, ← hf]; simp [m_dm, c12, c28, c44, c60])
              · refine z_aload_n (pc := 63) K d_M_isDerived_63 rfl ?_
                refine z_get (pc := 64) K (ref := "DemandTermsModel") d_M_isDerived_64 hi_M 0 rfl rfl 12 (by decide) k484 rfl rfl ?_
                refine z_iload (pc := 67) K d_M_isDerived_67 rfl ?_
                refine z_iald (pc := 69) K d_M_isDerived_69 8 0 rfl rfl (vp_in_nI (by omega) (by decide)) ?_
                refine z_eqi (y := dO (mE v) i) (by rw [nI_clamp (show i < 2 ^ 31 by omega)] <;> rfl) ?_
                refine z_aload_n (pc := 70) K d_M_isDerived_70 rfl ?_
                refine z_get (pc := 71) K (ref := "DemandTermsModel") d_M_isDerived_71 hi_M 0 rfl rfl 17 (by decide) k489 rfl rfl ?_
                refine z_iload_n (pc := 74) K d_M_isDerived_74 rfl ?_
                refine z_iald (pc := 75) K d_M_isDerived_75 13 0 rfl rfl (vp_in_nI hy (by decide)) ?_
                refine z_eqi (y := nI (qO (mQ v) y)) (by rw [nI_clamp (show y < 2 ^ 31 by omega)] <;> rfl) ?_
                refine z_icmp_ne (pc := 76) K (tgt := 116) d_M_isDerived_76 (by decide) (fun c76 => ?_) (fun c76 => ?_)
                · refine z_iconst (pc := 116) K (v := 0) d_M_isDerived_116 (by decide) ?_
                  refine z_eqi (y := bI false) rfl ?_
                  refine z_istore_n (pc := 117) K d_M_isDerived_117 rfl (by decide) rfl ?_
                  refine z_iinc (pc := 118) K (v := nI (i + 1)) d_M_isDerived_118 1 rfl (inc1 i) (by decide) rfl ?_
                  refine z_goto (pc := 121) K (tgt := 5) d_M_isDerived_121 (by decide) ?_
                  refine z_lv [0, 1, 2, 3, 4] rfl ?_
                  exact ih (i + 1) _ (by omega) (by rw [anyB, ← hf]; simp [m_dm, c12, c28, c44, c60, c76])
                · refine z_aload_n (pc := 79) K d_M_isDerived_79 rfl ?_
                  refine z_get (pc := 80) K (ref := "DemandTermsModel") d_M_isDerived_80 hi_M 0 rfl rfl 14 (by decide) k486 rfl rfl ?_
                  refine z_iload (pc := 83) K d_M_isDerived_83 rfl ?_
                  refine z_lald (pc := 85) K d_M_isDerived_85 10 1 rfl rfl (vp_in_nI (by omega) (by decide)) ?_
                  refine z_eql (y := dS (mE v) i) (by rw [nI_clamp (show i < 2 ^ 31 by omega)] <;> rfl) ?_
                  refine z_aload_n (pc := 86) K d_M_isDerived_86 rfl ?_
                  refine z_get (pc := 87) K (ref := "DemandTermsModel") d_M_isDerived_87 hi_M 0 rfl rfl 19 (by decide) k491 rfl rfl ?_
                  refine z_iload_n (pc := 90) K d_M_isDerived_90 rfl ?_
                  refine z_lald (pc := 91) K d_M_isDerived_91 15 1 rfl rfl (vp_in_nI hy (by decide)) ?_
                  refine z_eql (y := qS (mQ v) y) (by rw [nI_clamp (show y < 2 ^ 31 by omega)] <;> rfl) ?_
                  refine z_lcmp (pc := 92) K d_M_isDerived_92 ?_
                  refine z_ifl_ne (pc := 93) K (tgt := 116) d_M_isDerived_93 (by decide) (fun c93 => ?_) (fun c93 => ?_)
                  · refine z_iconst (pc := 116) K (v := 0) d_M_isDerived_116 (by decide) ?_
                    refine z_eqi (y := bI false) rfl ?_
                    refine z_istore_n (pc := 117) K d_M_isDerived_117 rfl (by decide) rfl ?_
                    refine z_iinc (pc := 118) K (v := nI (i + 1)) d_M_isDerived_118 1 rfl (inc1 i) (by decide) rfl ?_
                    refine z_goto (pc := 121) K (tgt := 5) d_M_isDerived_121 (by decide) ?_
                    refine z_lv [0, 1, 2, 3, 4] rfl ?_
                    exact ih (i + 1) _ (by omega) (by rw [anyB, ← hf]; simp [m_dm, c12, c28, c44, c60, c76, c93])
                  · refine z_aload_n (pc := 96) K d_M_isDerived_96 rfl ?_
                    refine z_get (pc := 97) K (ref := "DemandTermsModel") d_M_isDerived_97 hi_M 0 rfl rfl 13 (by decide) k485 rfl rfl ?_
                    refine z_iload (pc := 100) K d_M_isDerived_100 rfl ?_
                    refine z_iald (pc := 102) K d_M_isDerived_102 9 0 rfl rfl (vp_in_nI (by omega) (by decide)) ?_
                    refine z_eqi (y := dK (mE v) i) (by rw [nI_clamp (show i < 2 ^ 31 by omega)] <;> rfl) ?_
                    refine z_aload_n (pc := 103) K d_M_isDerived_103 rfl ?_
                    refine z_get (pc := 104) K (ref := "DemandTermsModel") d_M_isDerived_104 hi_M 0 rfl rfl 18 (by decide) k490 rfl rfl ?_
                    refine z_iload_n (pc := 107) K d_M_isDerived_107 rfl ?_
                    refine z_iald (pc := 108) K d_M_isDerived_108 14 0 rfl rfl (vp_in_nI hy (by decide)) ?_
                    refine z_eqi (y := qK (mQ v) y) (by rw [nI_clamp (show y < 2 ^ 31 by omega)] <;> rfl) ?_
                    refine z_icmp_ne (pc := 109) K (tgt := 116) d_M_isDerived_109 (by decide) (fun c109 => ?_) (fun c109 => ?_)
                    · refine z_iconst (pc := 116) K (v := 0) d_M_isDerived_116 (by decide) ?_
                      refine z_eqi (y := bI false) rfl ?_
                      refine z_istore_n (pc := 117) K d_M_isDerived_117 rfl (by decide) rfl ?_
                      refine z_iinc (pc := 118) K (v := nI (i + 1)) d_M_isDerived_118 1 rfl (inc1 i) (by decide) rfl ?_
                      refine z_goto (pc := 121) K (tgt := 5) d_M_isDerived_121 (by decide) ?_
                      refine z_lv [0, 1, 2, 3, 4] rfl ?_
                      exact ih (i + 1) _ (by omega) (by rw [anyB, ← hf]; simp [m_dm, c12, c28, c44, c60, c76, c93, c109])
                    · refine z_iconst (pc := 112) K (v := 1) d_M_isDerived_112 (by decide) ?_
                      refine z_goto (pc := 113) K (tgt := 117) d_M_isDerived_113 (by decide) ?_
                      refine z_eqi (y := bI true) rfl ?_
                      refine z_istore_n (pc := 117) K d_M_isDerived_117 rfl (by decide) rfl ?_
                      refine z_iinc (pc := 118) K (v := nI (i + 1)) d_M_isDerived_118 1 rfl (inc1 i) (by decide) rfl ?_
                      refine z_goto (pc := 121) K (tgt := 5) d_M_isDerived_121 (by decide) ?_
                      refine z_lv [0, 1, 2, 3, 4] rfl ?_
                      exact ih (i + 1) _ (by omega) (by rw [anyB, ← hf]; simp [m_dm, c12, c28, c44, c60, c76, c93, c109])
  refine z_lv [0, 1, 2, 3, 4] rfl ?_
  exact LP _ 0 false (Nat.zero_add _) rfl
set_option maxRecDepth 100000 in
set_option maxHeartbeats 4000000 in
theorem m_begin_c (v : MS)  (hb : mB v < 300) : MV l D vwCl (CT cI cJ cC cZ) (MW a cI cJ cZ) y_M_begin (wA y_M_begin prog_8_method_30_code 1 none) { frames := 0, cells := 0, slots := 0, locals := 0 } [.ref (a 0)] v (m_begin v) := by
  refine MV.of (cc := prog_8_method_30_code) (nL := 1) (by decide) rfl (Nat.le_of_ble_eq_true rfl) ?_
  intro p e s m below meth c A Q K ret
  refine z_lvE (lv' := [(0, .ref (a 0))]) rfl ?_
  refine z_aload_n (pc := 0) K d_M_begin_0 rfl ?_
  refine z_get (pc := 1) K (ref := "DemandTermsModel") d_M_begin_1 hi_M 0 rfl rfl 8 (by decide) k480 rfl rfl ?_
  refine z_aload_n (pc := 4) K d_M_begin_4 rfl ?_
  refine z_get (pc := 5) K (ref := "DemandTermsModel") d_M_begin_5 hi_M 0 rfl rfl 4 (by decide) k476 rfl rfl ?_
  refine z_iconst (pc := 8) K (v := 0) d_M_begin_8 (by decide) ?_
  refine z_eqi (y := nI 0) nI_0.symm ?_
  refine z_iast (pc := 9) K (ws' := (MW a cI cJ cZ (sP v (updN (mP v) (mB v) 0)))) d_M_begin_9 4 0 rfl rfl (vp_in_nI hb (by decide)) (by rw [nI_clamp (show (mB v) < 2 ^ 31 by omega)]; exact congrArg (fun f => (MW a cI cJ cZ v).set 4 (a 4, .inl (cI, 300, .inl f))) (w_nI (mP v) (mB v) 0)) ?_
  refine z_aload_n (pc := 10) K d_M_begin_10 rfl ?_
  refine z_get (pc := 11) K (ref := "DemandTermsModel") d_M_begin_11 hi_M 0 rfl rfl 9 (by decide) k481 rfl rfl ?_
  refine z_aload_n (pc := 14) K d_M_begin_14 rfl ?_
  refine z_get (pc := 15) K (ref := "DemandTermsModel") d_M_begin_15 hi_M 0 rfl rfl 4 (by decide) k476 rfl rfl ?_
  refine z_iconst (pc := 18) K (v := (-1)) d_M_begin_18 (by decide) ?_
  refine z_iast (pc := 19) K (ws' := (MW a cI cJ cZ (m_begin v))) d_M_begin_19 5 0 rfl rfl (vp_in_nI hb (by decide)) (by rw [show (nI (mB (sP v (updN (mP v) (mB v) 0)))).toNatClampNeg = mB v from nI_clamp (show (mB v) < 2 ^ 31 by omega)]; rfl) ?_
  exact z_retv (pc := 20) ret d_M_begin_20 rfl
end CM
