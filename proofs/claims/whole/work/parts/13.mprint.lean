section CM
variable {l : Launch} {D : va_G} {a : Nat → Nat} {cI cJ cC cZ : ClassId}
set_option maxRecDepth 100000 in
set_option maxHeartbeats 4000000 in
theorem m_put_c (v : MS) (x : Int32) (hp : (mO v).1 < 8000) : MV l D vwCl (CT cI cJ cC cZ) (MW a cI cJ cZ) y_M_put (wA y_M_put prog_8_method_53_code 2 none) { frames := 0, cells := 0, slots := 0, locals := 0 } [.ref (a 0), .int x] v (sO v (m_put (mO v) x)) := by
  refine MV.of (cc := prog_8_method_53_code) (nL := 2) (by decide) rfl (Nat.le_of_ble_eq_true rfl) ?_
  intro p e s m below meth c A Q K ret
  refine z_lvE (lv' := [(0, .ref (a 0)), (1, .int x)]) rfl ?_
  refine z_aload_n (pc := 0) K d_M_put_0 rfl ?_
  refine z_get (pc := 1) K (ref := "DemandTermsModel") d_M_put_1 hi_M 0 rfl rfl 20 (by decide) k492 rfl rfl ?_
  refine z_aload_n (pc := 4) K d_M_put_4 rfl ?_
  refine z_get (pc := 5) K (ref := "DemandTermsModel") d_M_put_5 hi_M 0 rfl rfl 21 (by decide) k493 rfl rfl ?_
  refine z_iload_n (pc := 8) K d_M_put_8 rfl ?_
  refine z_iast (pc := 9) K (ws' := (MW a cI cJ cZ (sO v ((mO v).1, upd (mO v).2 (nI (mO v).1).toNatClampNeg x)))) d_M_put_9 16 0 rfl rfl (vp_in_nI hp (by decide)) rfl ?_
  refine z_aload_n (pc := 10) K d_M_put_10 rfl ?_
  refine z_dup (pc := 11) K d_M_put_11 rfl ?_
  refine z_get (pc := 12) K (ref := "DemandTermsModel") d_M_put_12 hi_M 0 rfl rfl 21 (by decide) k493 rfl rfl ?_
  refine z_iconst (pc := 15) K (v := 1) d_M_put_15 (by decide) ?_
  refine z_iadd (pc := 16) K d_M_put_16 ?_
  refine z_eqi (nI_1 _) ?_
  refine z_put (pc := 17) K (ref := "DemandTermsModel") (ws' := (MW a cI cJ cZ (sO v ((mO v).1 + 1, upd (mO v).2 (nI (mO v).1).toNatClampNeg x)))) d_M_put_17 hi_M ty_M ty_M_ok nm_M 0 rfl rfl 21 (by decide) k493 rfl rfl rfl rfl rfl (Nat.le_of_ble_eq_true rfl) rfl ?_
  exact z_retv (pc := 20) ret d_M_put_20 (by rw [m_put, nI_clamp (show (mO v).1 < 2 ^ 31 by omega)] <;> rfl)
set_option maxRecDepth 100000 in
set_option maxHeartbeats 4000000 in
theorem m_putNumber_c (v : MS) (x : Nat) (hp : (mO v).1 < 7990) : MV l D vwCl (CT cI cJ cC cZ) (MW a cI cJ cZ) y_M_putNumber (wA y_M_putNumber prog_8_method_54_code 2 none) { frames := 1, cells := 0, slots := 0, locals := 21 } [.ref (a 0), .int (nI x)] v (sO v (m_num (mO v) x)) := by
  refine MV.of (cc := prog_8_method_54_code) (nL := 2) (by decide) rfl (Nat.le_of_ble_eq_true rfl) ?_
  intro p e s m below meth c A Q K ret
  refine z_lvE (lv' := [(0, .ref (a 0)), (1, .int (nI x))]) rfl ?_
  refine z_iload_n (pc := 0) K d_M_putNumber_0 rfl ?_
  refine z_bipush (pc := 1) K (v := 9) d_M_putNumber_1 (by decide) ?_
  refine z_icmp_le (pc := 3) K (tgt := 17) d_M_putNumber_3 (by decide) (fun c3 => ?_) (fun c3 => ?_)
  · refine z_aload_n (pc := 17) K d_M_putNumber_17 rfl ?_
    refine z_bipush (pc := 18) K (v := 48) d_M_putNumber_18 (by decide) ?_
    refine z_iload_n (pc := 20) K d_M_putNumber_20 rfl ?_
    refine z_bipush (pc := 21) K (v := 10) d_M_putNumber_21 (by decide) ?_
    refine z_irem (pc := 23) K d_M_putNumber_23 (by decide) ?_
    refine z_iadd (pc := 24) K d_M_putNumber_24 ?_
    refine z_cVv (pc := 25) K 0 (m_put_c v _ (by omega)) (cwA K 1 k744 k746 ks42 k7 k747 q_M_put ⟨Nat.le_of_ble_eq_true rfl, Nat.le_of_ble_eq_true rfl⟩) d_M_putNumber_25 rfl rfl rfl rfl rfl (Nat.le_of_ble_eq_true rfl) ⟨Nat.le_of_ble_eq_true rfl, Nat.le_of_ble_eq_true rfl⟩ ?_
    exact z_retv (pc := 28) ret d_M_putNumber_28 (by rw [m_num, if_pos c3] <;> rfl)
  · refine z_aload_n (pc := 6) K d_M_putNumber_6 rfl ?_
    refine z_bipush (pc := 7) K (v := 48) d_M_putNumber_7 (by decide) ?_
    refine z_iload_n (pc := 9) K d_M_putNumber_9 rfl ?_
    refine z_bipush (pc := 10) K (v := 10) d_M_putNumber_10 (by decide) ?_
    refine z_idiv (pc := 12) K d_M_putNumber_12 (by decide) ?_
    refine z_iadd (pc := 13) K d_M_putNumber_13 ?_
    refine z_cVv (pc := 14) K 0 (m_put_c v _ (by omega)) (cwA K 1 k744 k746 ks42 k7 k747 q_M_put ⟨Nat.le_of_ble_eq_true rfl, Nat.le_of_ble_eq_true rfl⟩) d_M_putNumber_14 rfl rfl rfl rfl rfl (Nat.le_of_ble_eq_true rfl) ⟨Nat.le_of_ble_eq_true rfl, Nat.le_of_ble_eq_true rfl⟩ ?_
    refine z_aload_n (pc := 17) K d_M_putNumber_17 rfl ?_
    refine z_bipush (pc := 18) K (v := 48) d_M_putNumber_18 (by decide) ?_
    refine z_iload_n (pc := 20) K d_M_putNumber_20 rfl ?_
    refine z_bipush (pc := 21) K (v := 10) d_M_putNumber_21 (by decide) ?_
    refine z_irem (pc := 23) K d_M_putNumber_23 (by decide) ?_
    refine z_iadd (pc := 24) K d_M_putNumber_24 ?_
    refine z_cVv (pc := 25) K 0 (m_put_c _ _ (show (mO v).1 + 1 < 8000 by omega)) (cwA K 1 k744 k746 ks42 k7 k747 q_M_put ⟨Nat.le_of_ble_eq_true rfl, Nat.le_of_ble_eq_true rfl⟩) d_M_putNumber_25 rfl rfl rfl rfl rfl (Nat.le_of_ble_eq_true rfl) ⟨Nat.le_of_ble_eq_true rfl, Nat.le_of_ble_eq_true rfl⟩ ?_
    exact z_retv (pc := 28) ret d_M_putNumber_28 (by rw [m_num, if_neg c3] <;> rfl)
set_option maxRecDepth 100000 in
set_option maxHeartbeats 4000000 in
theorem m_putTerm_c (v : MS) (t : Nat) (hm : mOk v) (ht : t < 5420) (hp : (mO v).1 + 400 ≤ 8000) : MV l D vwCl (CT cI cJ cC cZ) (MW a cI cJ cZ) y_M_putTerm (wA y_M_putTerm prog_8_method_55_code 5 none) { frames := 3, cells := 0, slots := 0, locals := 65 } [.ref (a 0), .int (nI t)] v (sO v (m_pt v t (mO v))) := by
  refine MV.of (cc := prog_8_method_55_code) (nL := 5) (by decide) rfl (Nat.le_of_ble_eq_true rfl) ?_
  intro p e s m below meth c A Q K ret
  refine z_lvE (lv' := [(0, .ref (a 0)), (1, .int (nI t))]) rfl ?_
  obtain ⟨⟨hm1, hm2, hm3, hm4⟩, hmV, hmn, hmq, hmp⟩ := id hm
  have LP : ∀ (n i : Nat) (f : Bool) (g : GS), i + n = 48 → g.1 + 6 * n ≤ (mO v).1 + 3 + 288 → m_ptl (m_isL (mV v) (mL v) t) n i f g = m_pt v t (mO v) → zW p l e { frames := 3, cells := 0, slots := 0, locals := 65 } s m [.ref (a 0), .int (nI t)].toArray below meth c D vwCl A 5 0 0 Q (MW a cI cJ cZ (sO v g)) 37 [(3, .int (nI i)), (2, .int (bI f)), (0, .ref (a 0)), (1, .int (nI t))] [] := by
    intro n
    induction n with
    | zero =>
      intro i f g hi hg hf
      refine z_iload_n (pc := 37) K d_M_putTerm_37 rfl ?_
      refine z_bipush (pc := 38) K (v := 48) d_M_putTerm_38 (by decide) ?_
      refine z_icmp_ge (pc := 40) K (tgt := 135) d_M_putTerm_40 (by decide) (fun c40 => ?_) (fun c40 => ?_)
      · exact z_retv (pc := 135) ret d_M_putTerm_135 (by rw [← hf] <;> rfl)
      · exact absurd (nI_le (a := 48) (b := i) (by omega) (by omega)) c40
    | succ n ih =>
      intro i f g hi hg hf
      have J91 : ∀ (j : Nat), j ≤ 48 → j = m_le (m_isL (mV v) (mL v) t) (48 - i) i → (m_isL (mV v) (mL v) t) i = true → ¬ (0 < i ∧ (m_isL (mV v) (mL v) t) (i - 1) = true) → zW p l e { frames := 3, cells := 0, slots := 0, locals := 65 } s m [.ref (a 0), .int (nI t)].toArray below meth c D vwCl A 5 0 0 Q (MW a cI cJ cZ (sO v g)) 91 [(4, .int (nI j)), (3, .int (nI i)), (2, .int (bI f)), (0, .ref (a 0)), (1, .int (nI t))] [] := by
        intro j hj ej hP hno
        refine z_iload_n (pc := 91) K d_M_putTerm_91 rfl ?_
        refine z_ifb_eq (pc := 92) K (tgt := 101) d_M_putTerm_92 (by decide) (fun c92 => ?_) (fun c92 => ?_)
        · refine z_iconst (pc := 101) K (v := 1) d_M_putTerm_101 (by decide) ?_
          refine z_eqi (y := bI true) rfl ?_
          refine z_istore_n (pc := 102) K d_M_putTerm_102 rfl (by decide) rfl ?_
          refine z_aload_n (pc := 103) K d_M_putTerm_103 rfl ?_
          refine z_iload_n (pc := 104) K d_M_putTerm_104 rfl ?_
          refine z_cVv (pc := 105) K 0 (m_putNumber_c (sO v g) i (show g.1 < 7990 by omega)) (cwA K 1 k752 k754 ks44 k7 k755 q_M_putNumber ⟨Nat.le_of_ble_eq_true rfl, Nat.le_of_ble_eq_true rfl⟩) d_M_putTerm_105 rfl rfl rfl rfl rfl (Nat.le_of_ble_eq_true rfl) ⟨Nat.le_of_ble_eq_true rfl, Nat.le_of_ble_eq_true rfl⟩ ?_
          refine z_ws (ws' := (MW a cI cJ cZ (sO v (m_num g i)))) rfl ?_
          refine z_iload (pc := 108) K d_M_putTerm_108 rfl ?_
          refine z_iload_n (pc := 110) K d_M_putTerm_110 rfl ?_
          refine z_icmp_ne (pc := 111) K (tgt := 117) d_M_putTerm_111 (by decide) (fun c111 => ?_) (fun c111 => ?_)
          · refine z_aload_n (pc := 117) K d_M_putTerm_117 rfl ?_
            refine z_bipush (pc := 118) K (v := 45) d_M_putTerm_118 (by decide) ?_
            refine z_cVv (pc := 120) K 0 (m_put_c (sO v (m_num g i)) _ (show (m_num g i).1 < 8000 by have h1 := m_num_le g i; have h4 : g.1 ≤ g.1 + 1 := (by first | exact Nat.le_refl _ | exact Nat.le_succ _); omega)) (cwA K 1 k744 k746 ks42 k7 k747 q_M_put ⟨Nat.le_of_ble_eq_true rfl, Nat.le_of_ble_eq_true rfl⟩) d_M_putTerm_120 rfl rfl rfl rfl rfl (Nat.le_of_ble_eq_true rfl) ⟨Nat.le_of_ble_eq_true rfl, Nat.le_of_ble_eq_true rfl⟩ ?_
            refine z_ws (ws' := (MW a cI cJ cZ (sO v (m_put (m_num g i) 45)))) rfl ?_
            refine z_aload_n (pc := 123) K d_M_putTerm_123 rfl ?_
            refine z_iload (pc := 124) K d_M_putTerm_124 rfl ?_
            refine z_cVv (pc := 126) K 0 (m_putNumber_c (sO v (m_put (m_num g i) 45)) j (show (m_num g i).1 + 1 < 7990 by have h1 := m_num_le g i; have h4 : g.1 ≤ g.1 + 1 := (by first | exact Nat.le_refl _ | exact Nat.le_succ _); omega)) (cwA K 1 k752 k754 ks44 k7 k755 q_M_putNumber ⟨Nat.le_of_ble_eq_true rfl, Nat.le_of_ble_eq_true rfl⟩) d_M_putTerm_126 rfl rfl rfl rfl rfl (Nat.le_of_ble_eq_true rfl) ⟨Nat.le_of_ble_eq_true rfl, Nat.le_of_ble_eq_true rfl⟩ ?_
            refine z_ws (ws' := (MW a cI cJ cZ (sO v (m_num (m_put (m_num g i) 45) j)))) rfl ?_
            refine z_iinc (pc := 129) K (v := nI (i + 1)) d_M_putTerm_129 2 rfl (inc1 i) (by decide) rfl ?_
            refine z_goto (pc := 132) K (tgt := 37) d_M_putTerm_132 (by decide) ?_
            refine z_lv [0, 1, 3, 4] rfl ?_
            exact ih (i + 1) true (m_num (m_put (m_num g i) 45) j) (by omega) (by have h1 := m_num_le g i; have h2 := m_num_le (m_put (m_num g i) 45) j; have h3 : (m_put (m_num g i) 45).1 = (m_num g i).1 + 1 := rfl; have h4 : g.1 ≤ g.1 + 1 := (by first | exact Nat.le_refl _ | exact Nat.le_succ _); omega) (by rw [← hf, m_ptl, if_pos hP, if_neg hno, m_ptS, ← ej, if_neg (fun q => c111 (by rw [q])), if_neg (by rw [c92]; decide)])
          · refine z_goto (pc := 114) K (tgt := 129) d_M_putTerm_114 (by decide) ?_
            refine z_iinc (pc := 129) K (v := nI (i + 1)) d_M_putTerm_129 2 rfl (inc1 i) (by decide) rfl ?_
            refine z_goto (pc := 132) K (tgt := 37) d_M_putTerm_132 (by decide) ?_
            refine z_lv [0, 1, 3, 4] rfl ?_
            exact ih (i + 1) true (m_num g i) (by omega) (by have h1 := m_num_le g i; have h4 : g.1 ≤ g.1 + 1 := (by first | exact Nat.le_refl _ | exact Nat.le_succ _); omega) (by rw [← hf, m_ptl, if_pos hP, if_neg hno, m_ptS, ← ej, if_pos ((nI_eq (by omega) (by omega)).mp c111), if_neg (by rw [c92]; decide)])
        · refine z_aload_n (pc := 95) K d_M_putTerm_95 rfl ?_
          refine z_bipush (pc := 96) K (v := 44) d_M_putTerm_96 (by decide) ?_
          refine z_cVv (pc := 98) K 0 (m_put_c (sO v g) _ (show g.1 < 8000 by omega)) (cwA K 1 k744 k746 ks42 k7 k747 q_M_put ⟨Nat.le_of_ble_eq_true rfl, Nat.le_of_ble_eq_true rfl⟩) d_M_putTerm_98 rfl rfl rfl rfl rfl (Nat.le_of_ble_eq_true rfl) ⟨Nat.le_of_ble_eq_true rfl, Nat.le_of_ble_eq_true rfl⟩ ?_
          refine z_ws (ws' := (MW a cI cJ cZ (sO v (m_put g 44)))) rfl ?_
          refine z_iconst (pc := 101) K (v := 1) d_M_putTerm_101 (by decide) ?_
          refine z_eqi (y := bI true) rfl ?_
          refine z_istore_n (pc := 102) K d_M_putTerm_102 rfl (by decide) rfl ?_
          refine z_aload_n (pc := 103) K d_M_putTerm_103 rfl ?_
          refine z_iload_n (pc := 104) K d_M_putTerm_104 rfl ?_
          refine z_cVv (pc := 105) K 0 (m_putNumber_c (sO v (m_put g 44)) i (show g.1 + 1 < 7990 by omega)) (cwA K 1 k752 k754 ks44 k7 k755 q_M_putNumber ⟨Nat.le_of_ble_eq_true rfl, Nat.le_of_ble_eq_true rfl⟩) d_M_putTerm_105 rfl rfl rfl rfl rfl (Nat.le_of_ble_eq_true rfl) ⟨Nat.le_of_ble_eq_true rfl, Nat.le_of_ble_eq_true rfl⟩ ?_
          refine z_ws (ws' := (MW a cI cJ cZ (sO v (m_num (m_put g 44) i)))) rfl ?_
          refine z_iload (pc := 108) K d_M_putTerm_108 rfl ?_
          refine z_iload_n (pc := 110) K d_M_putTerm_110 rfl ?_
          refine z_icmp_ne (pc := 111) K (tgt := 117) d_M_putTerm_111 (by decide) (fun c111 => ?_) (fun c111 => ?_)
          · refine z_aload_n (pc := 117) K d_M_putTerm_117 rfl ?_
            refine z_bipush (pc := 118) K (v := 45) d_M_putTerm_118 (by decide) ?_
            refine z_cVv (pc := 120) K 0 (m_put_c (sO v (m_num (m_put g 44) i)) _ (show (m_num (m_put g 44) i).1 < 8000 by have h1 := m_num_le (m_put g 44) i; have h4 : (m_put g 44).1 ≤ g.1 + 1 := (by first | exact Nat.le_refl _ | exact Nat.le_succ _); omega)) (cwA K 1 k744 k746 ks42 k7 k747 q_M_put ⟨Nat.le_of_ble_eq_true rfl, Nat.le_of_ble_eq_true rfl⟩) d_M_putTerm_120 rfl rfl rfl rfl rfl (Nat.le_of_ble_eq_true rfl) ⟨Nat.le_of_ble_eq_true rfl, Nat.le_of_ble_eq_true rfl⟩ ?_
            refine z_ws (ws' := (MW a cI cJ cZ (sO v (m_put (m_num (m_put g 44) i) 45)))) rfl ?_
            refine z_aload_n (pc := 123) K d_M_putTerm_123 rfl ?_
            refine z_iload (pc := 124) K d_M_putTerm_124 rfl ?_
            refine z_cVv (pc := 126) K 0 (m_putNumber_c (sO v (m_put (m_num (m_put g 44) i) 45)) j (show (m_num (m_put g 44) i).1 + 1 < 7990 by have h1 := m_num_le (m_put g 44) i; have h4 : (m_put g 44).1 ≤ g.1 + 1 := (by first | exact Nat.le_refl _ | exact Nat.le_succ _); omega)) (cwA K 1 k752 k754 ks44 k7 k755 q_M_putNumber ⟨Nat.le_of_ble_eq_true rfl, Nat.le_of_ble_eq_true rfl⟩) d_M_putTerm_126 rfl rfl rfl rfl rfl (Nat.le_of_ble_eq_true rfl) ⟨Nat.le_of_ble_eq_true rfl, Nat.le_of_ble_eq_true rfl⟩ ?_
            refine z_ws (ws' := (MW a cI cJ cZ (sO v (m_num (m_put (m_num (m_put g 44) i) 45) j)))) rfl ?_
            refine z_iinc (pc := 129) K (v := nI (i + 1)) d_M_putTerm_129 2 rfl (inc1 i) (by decide) rfl ?_
            refine z_goto (pc := 132) K (tgt := 37) d_M_putTerm_132 (by decide) ?_
            refine z_lv [0, 1, 3, 4] rfl ?_
            exact ih (i + 1) true (m_num (m_put (m_num (m_put g 44) i) 45) j) (by omega) (by have h1 := m_num_le (m_put g 44) i; have h2 := m_num_le (m_put (m_num (m_put g 44) i) 45) j; have h3 : (m_put (m_num (m_put g 44) i) 45).1 = (m_num (m_put g 44) i).1 + 1 := rfl; have h4 : (m_put g 44).1 ≤ g.1 + 1 := (by first | exact Nat.le_refl _ | exact Nat.le_succ _); omega) (by rw [← hf, m_ptl, if_pos hP, if_neg hno, m_ptS, ← ej, if_neg (fun q => c111 (by rw [q])), if_pos c92])
          · refine z_goto (pc := 114) K (tgt := 129) d_M_putTerm_114 (by decide) ?_
            refine z_iinc (pc := 129) K (v := nI (i + 1)) d_M_putTerm_129 2 rfl (inc1 i) (by decide) rfl ?_
            refine z_goto (pc := 132) K (tgt := 37) d_M_putTerm_132 (by decide) ?_
            refine z_lv [0, 1, 3, 4] rfl ?_
            exact ih (i + 1) true (m_num (m_put g 44) i) (by omega) (by have h1 := m_num_le (m_put g 44) i; have h4 : (m_put g 44).1 ≤ g.1 + 1 := (by first | exact Nat.le_refl _ | exact Nat.le_succ _); omega) (by rw [← hf, m_ptl, if_pos hP, if_neg hno, m_ptS, ← ej, if_pos ((nI_eq (by omega) (by omega)).mp c111), if_pos c92])
      have J70 : ∀ (_ : True), (m_isL (mV v) (mL v) t) i = true → ¬ (0 < i ∧ (m_isL (mV v) (mL v) t) (i - 1) = true) → zW p l e { frames := 3, cells := 0, slots := 0, locals := 65 } s m [.ref (a 0), .int (nI t)].toArray below meth c D vwCl A 5 0 0 Q (MW a cI cJ cZ (sO v g)) 70 [(3, .int (nI i)), (2, .int (bI f)), (0, .ref (a 0)), (1, .int (nI t))] [] := by
        intro _ hP hno
        refine z_iload_n (pc := 70) K d_M_putTerm_70 rfl ?_
        refine z_istore (pc := 71) K d_M_putTerm_71 (by decide) rfl ?_
        have LQ : ∀ (n2 j : Nat), j + n2 = 48 → m_le (m_isL (mV v) (mL v) t) n2 j = m_le (m_isL (mV v) (mL v) t) (48 - i) i → zW p l e { frames := 3, cells := 0, slots := 0, locals := 65 } s m [.ref (a 0), .int (nI t)].toArray below meth c D vwCl A 5 0 0 Q (MW a cI cJ cZ (sO v g)) 73 [(4, .int (nI j)), (3, .int (nI i)), (2, .int (bI f)), (0, .ref (a 0)), (1, .int (nI t))] [] := by
          intro n2
          induction n2 with
          | zero =>
            intro j hj hl
            refine z_aload_n (pc := 73) K d_M_putTerm_73 rfl ?_
            refine z_iload_n (pc := 74) K d_M_putTerm_74 rfl ?_
            refine z_iload (pc := 75) K d_M_putTerm_75 rfl ?_
            refine z_iconst (pc := 77) K (v := 1) d_M_putTerm_77 (by decide) ?_
            refine z_iadd (pc := 78) K d_M_putTerm_78 ?_
            refine z_eqi (nI_1 _) ?_
            refine z_cVi (pc := 79) K 0 (m_isListed_c (sO v g) t (j + 1) ht (hmn t) (hmV _) (by omega)) (cwA K 2 k596 k598 ks22 k7 k599 q_M_isListed ⟨Nat.le_of_ble_eq_true rfl, Nat.le_of_ble_eq_true rfl⟩) d_M_putTerm_79 rfl rfl rfl rfl rfl (Nat.le_of_ble_eq_true rfl) ⟨Nat.le_of_ble_eq_true rfl, Nat.le_of_ble_eq_true rfl⟩ ?_
            refine z_ifb_eq (pc := 82) K (tgt := 91) d_M_putTerm_82 (by decide) (fun c82 => ?_) (fun c82 => ?_)
            · refine z_lv [0, 1, 2, 3, 4] rfl ?_
              exact J91 j (by omega) (by rw [← hl] <;> rfl) hP hno
            · exact absurd c82 (by rw [isL_48 (hmV _) (by omega)]; decide)
          | succ n2 ih2 =>
            intro j hj hl
            refine z_aload_n (pc := 73) K d_M_putTerm_73 rfl ?_
            refine z_iload_n (pc := 74) K d_M_putTerm_74 rfl ?_
            refine z_iload (pc := 75) K d_M_putTerm_75 rfl ?_
            refine z_iconst (pc := 77) K (v := 1) d_M_putTerm_77 (by decide) ?_
            refine z_iadd (pc := 78) K d_M_putTerm_78 ?_
            refine z_eqi (nI_1 _) ?_
            refine z_cVi (pc := 79) K 0 (m_isListed_c (sO v g) t (j + 1) ht (hmn t) (hmV _) (by omega)) (cwA K 2 k596 k598 ks22 k7 k599 q_M_isListed ⟨Nat.le_of_ble_eq_true rfl, Nat.le_of_ble_eq_true rfl⟩) d_M_putTerm_79 rfl rfl rfl rfl rfl (Nat.le_of_ble_eq_true rfl) ⟨Nat.le_of_ble_eq_true rfl, Nat.le_of_ble_eq_true rfl⟩ ?_
            refine z_ifb_eq (pc := 82) K (tgt := 91) d_M_putTerm_82 (by decide) (fun c82 => ?_) (fun c82 => ?_)
            · refine z_lv [0, 1, 2, 3, 4] rfl ?_
              exact J91 j (by omega) (by rw [← hl, m_le, if_neg (by rw [show (m_isL (mV v) (mL v) t) (j + 1) = false from c82]; decide)]) hP hno
            · refine z_iinc (pc := 85) K (v := nI (j + 1)) d_M_putTerm_85 0 rfl (inc1 j) (by decide) rfl ?_
              refine z_goto (pc := 88) K (tgt := 73) d_M_putTerm_88 (by decide) ?_
              refine z_lv [0, 1, 2, 3, 4] rfl ?_
              exact ih2 (j + 1) (by omega) (by rw [← hl, m_le, if_pos (show (m_isL (mV v) (mL v) t) (j + 1) = true from c82)])
        refine z_lv [0, 1, 2, 3, 4] rfl ?_
        exact LQ (48 - i) i (by omega) rfl
      refine z_iload_n (pc := 37) K d_M_putTerm_37 rfl ?_
      refine z_bipush (pc := 38) K (v := 48) d_M_putTerm_38 (by decide) ?_
      refine z_icmp_ge (pc := 40) K (tgt := 135) d_M_putTerm_40 (by decide) (fun c40 => ?_) (fun c40 => ?_)
      · exact absurd c40 (nI_ge (a := i) (b := 48) (by omega) (by omega))
      · refine z_aload_n (pc := 43) K d_M_putTerm_43 rfl ?_
        refine z_iload_n (pc := 44) K d_M_putTerm_44 rfl ?_
        refine z_iload_n (pc := 45) K d_M_putTerm_45 rfl ?_
        refine z_cVi (pc := 46) K 0 (m_isListed_c (sO v g) t i ht (hmn t) (hmV _) (by omega)) (cwA K 2 k596 k598 ks22 k7 k599 q_M_isListed ⟨Nat.le_of_ble_eq_true rfl, Nat.le_of_ble_eq_true rfl⟩) d_M_putTerm_46 rfl rfl rfl rfl rfl (Nat.le_of_ble_eq_true rfl) ⟨Nat.le_of_ble_eq_true rfl, Nat.le_of_ble_eq_true rfl⟩ ?_
        refine z_ifb_eq (pc := 49) K (tgt := 129) d_M_putTerm_49 (by decide) (fun c49 => ?_) (fun c49 => ?_)
        · refine z_iinc (pc := 129) K (v := nI (i + 1)) d_M_putTerm_129 0 rfl (inc1 i) (by decide) rfl ?_
          refine z_goto (pc := 132) K (tgt := 37) d_M_putTerm_132 (by decide) ?_
          refine z_lv [0, 1, 2, 3] rfl ?_
          exact ih (i + 1) _ _ (by omega) (by omega) (by rw [← hf, m_ptl, if_neg (by rw [c49]; decide)])
        · refine z_iload_n (pc := 52) K d_M_putTerm_52 rfl ?_
          refine z_if_le (pc := 53) K (tgt := 70) d_M_putTerm_53 (by decide) (fun c53 => ?_) (fun c53 => ?_)
          · refine z_lv [0, 1, 2, 3] rfl ?_
            exact J70 trivial c49 (fun q => absurd c53 (nI_nle q.1 (by omega)))
          · have hpos : 0 < i := Nat.pos_of_ne_zero (fun q => c53 (by rw [q]; decide))
            have ei : nI i - 1 = nI (i - 1) := by rw [show i = (i - 1) + 1 by omega, nI_pred] <;> rfl
            refine z_aload_n (pc := 56) K d_M_putTerm_56 rfl ?_
            refine z_iload_n (pc := 57) K d_M_putTerm_57 rfl ?_
            refine z_iload_n (pc := 58) K d_M_putTerm_58 rfl ?_
            refine z_iconst (pc := 59) K (v := 1) d_M_putTerm_59 (by decide) ?_
            refine z_isub (pc := 60) K d_M_putTerm_60 ?_
            refine z_eqi ei ?_
            refine z_cVi (pc := 61) K 0 (m_isListed_c (sO v g) t (i - 1) ht (hmn t) (hmV _) (by omega)) (cwA K 2 k596 k598 ks22 k7 k599 q_M_isListed ⟨Nat.le_of_ble_eq_true rfl, Nat.le_of_ble_eq_true rfl⟩) d_M_putTerm_61 rfl rfl rfl rfl rfl (Nat.le_of_ble_eq_true rfl) ⟨Nat.le_of_ble_eq_true rfl, Nat.le_of_ble_eq_true rfl⟩ ?_
            refine z_ifb_eq (pc := 64) K (tgt := 70) d_M_putTerm_64 (by decide) (fun c64 => ?_) (fun c64 => ?_)
            · refine z_lv [0, 1, 2, 3] rfl ?_
              exact J70 trivial c49 (fun q => absurd q.2 (by rw [c64]; decide))
            · refine z_goto (pc := 67) K (tgt := 129) d_M_putTerm_67 (by decide) ?_
              refine z_iinc (pc := 129) K (v := nI (i + 1)) d_M_putTerm_129 0 rfl (inc1 i) (by decide) rfl ?_
              refine z_goto (pc := 132) K (tgt := 37) d_M_putTerm_132 (by decide) ?_
              refine z_lv [0, 1, 2, 3] rfl ?_
              exact ih (i + 1) _ _ (by omega) (by omega) (by rw [← hf, m_ptl, if_pos c49, if_pos ⟨hpos, c64⟩])
  refine z_aload_n (pc := 0) K d_M_putTerm_0 rfl ?_
  refine z_iload_n (pc := 1) K d_M_putTerm_1 rfl ?_
  refine z_cVi (pc := 2) K 0 (m_isWanted_c v t ht) (cwA K 1 k600 k602 ks23 k7 k603 q_M_isWanted ⟨Nat.le_of_ble_eq_true rfl, Nat.le_of_ble_eq_true rfl⟩) d_M_putTerm_2 rfl rfl rfl rfl rfl (Nat.le_of_ble_eq_true rfl) ⟨Nat.le_of_ble_eq_true rfl, Nat.le_of_ble_eq_true rfl⟩ ?_
  refine z_ifb_ne (pc := 5) K (tgt := 14) d_M_putTerm_5 (by decide) (fun c5 => ?_) (fun c5 => ?_)
  · refine z_aload_n (pc := 14) K d_M_putTerm_14 rfl ?_
    refine z_bipush (pc := 15) K (v := 97) d_M_putTerm_15 (by decide) ?_
    refine z_aload_n (pc := 17) K d_M_putTerm_17 rfl ?_
    refine z_get (pc := 18) K (ref := "DemandTermsModel") d_M_putTerm_18 hi_M 0 rfl rfl 6 (by decide) k478 rfl rfl ?_
    refine z_iload_n (pc := 21) K d_M_putTerm_21 rfl ?_
    refine z_iald (pc := 22) K d_M_putTerm_22 2 0 rfl rfl (vp_in_nI ht (by decide)) ?_
    refine z_eqi (y := nI ((mL v).1 t)) (by rw [nI_clamp (show t < 2 ^ 31 by omega)] <;> rfl) ?_
    refine z_iadd (pc := 23) K d_M_putTerm_23 ?_
    refine z_cVv (pc := 24) K 0 (m_put_c v _ (by omega)) (cwA K 1 k744 k746 ks42 k7 k747 q_M_put ⟨Nat.le_of_ble_eq_true rfl, Nat.le_of_ble_eq_true rfl⟩) d_M_putTerm_24 rfl rfl rfl rfl rfl (Nat.le_of_ble_eq_true rfl) ⟨Nat.le_of_ble_eq_true rfl, Nat.le_of_ble_eq_true rfl⟩ ?_
    refine z_aload_n (pc := 27) K d_M_putTerm_27 rfl ?_
    refine z_bipush (pc := 28) K (v := 32) d_M_putTerm_28 (by decide) ?_
    refine z_cVv (pc := 30) K 0 (m_put_c _ _ (show (mO v).1 + 1 < 8000 by omega)) (cwA K 1 k744 k746 ks42 k7 k747 q_M_put ⟨Nat.le_of_ble_eq_true rfl, Nat.le_of_ble_eq_true rfl⟩) d_M_putTerm_30 rfl rfl rfl rfl rfl (Nat.le_of_ble_eq_true rfl) ⟨Nat.le_of_ble_eq_true rfl, Nat.le_of_ble_eq_true rfl⟩ ?_
    refine z_iconst (pc := 33) K (v := 0) d_M_putTerm_33 (by decide) ?_
    refine z_istore_n (pc := 34) K d_M_putTerm_34 rfl (by decide) rfl ?_
    refine z_iconst (pc := 35) K (v := 0) d_M_putTerm_35 (by decide) ?_
    refine z_istore_n (pc := 36) K d_M_putTerm_36 rfl (by decide) rfl ?_
    refine z_lv [0, 1, 2, 3] rfl ?_
    exact LP 48 0 false _ rfl (by show (mO v).1 + 1 + 1 + 288 ≤ _; omega) (by rw [m_pt, if_pos c5] <;> rfl)
  · refine z_aload_n (pc := 8) K d_M_putTerm_8 rfl ?_
    refine z_bipush (pc := 9) K (v := 33) d_M_putTerm_9 (by decide) ?_
    refine z_cVv (pc := 11) K 0 (m_put_c v _ (by omega)) (cwA K 1 k744 k746 ks42 k7 k747 q_M_put ⟨Nat.le_of_ble_eq_true rfl, Nat.le_of_ble_eq_true rfl⟩) d_M_putTerm_11 rfl rfl rfl rfl rfl (Nat.le_of_ble_eq_true rfl) ⟨Nat.le_of_ble_eq_true rfl, Nat.le_of_ble_eq_true rfl⟩ ?_
    refine z_aload_n (pc := 14) K d_M_putTerm_14 rfl ?_
    refine z_bipush (pc := 15) K (v := 97) d_M_putTerm_15 (by decide) ?_
    refine z_aload_n (pc := 17) K d_M_putTerm_17 rfl ?_
    refine z_get (pc := 18) K (ref := "DemandTermsModel") d_M_putTerm_18 hi_M 0 rfl rfl 6 (by decide) k478 rfl rfl ?_
    refine z_iload_n (pc := 21) K d_M_putTerm_21 rfl ?_
    refine z_iald (pc := 22) K d_M_putTerm_22 2 0 rfl rfl (vp_in_nI ht (by decide)) ?_
    refine z_eqi (y := nI ((mL v).1 t)) (by rw [nI_clamp (show t < 2 ^ 31 by omega)] <;> rfl) ?_
    refine z_iadd (pc := 23) K d_M_putTerm_23 ?_
    refine z_cVv (pc := 24) K 0 (m_put_c _ _ (show (mO v).1 + 1 < 8000 by omega)) (cwA K 1 k744 k746 ks42 k7 k747 q_M_put ⟨Nat.le_of_ble_eq_true rfl, Nat.le_of_ble_eq_true rfl⟩) d_M_putTerm_24 rfl rfl rfl rfl rfl (Nat.le_of_ble_eq_true rfl) ⟨Nat.le_of_ble_eq_true rfl, Nat.le_of_ble_eq_true rfl⟩ ?_
    refine z_aload_n (pc := 27) K d_M_putTerm_27 rfl ?_
    refine z_bipush (pc := 28) K (v := 32) d_M_putTerm_28 (by decide) ?_
    refine z_cVv (pc := 30) K 0 (m_put_c _ _ (show (mO v).1 + 1 + 1 < 8000 by omega)) (cwA K 1 k744 k746 ks42 k7 k747 q_M_put ⟨Nat.le_of_ble_eq_true rfl, Nat.le_of_ble_eq_true rfl⟩) d_M_putTerm_30 rfl rfl rfl rfl rfl (Nat.le_of_ble_eq_true rfl) ⟨Nat.le_of_ble_eq_true rfl, Nat.le_of_ble_eq_true rfl⟩ ?_
    refine z_iconst (pc := 33) K (v := 0) d_M_putTerm_33 (by decide) ?_
    refine z_istore_n (pc := 34) K d_M_putTerm_34 rfl (by decide) rfl ?_
    refine z_iconst (pc := 35) K (v := 0) d_M_putTerm_35 (by decide) ?_
    refine z_istore_n (pc := 36) K d_M_putTerm_36 rfl (by decide) rfl ?_
    refine z_lv [0, 1, 2, 3] rfl ?_
    exact LP 48 0 false _ rfl (by show (mO v).1 + 1 + 1 + 1 + 288 ≤ _; omega) (by rw [m_pt, if_neg (by rw [c5]; decide)] <;> rfl)
set_option maxRecDepth 100000 in
set_option maxHeartbeats 4000000 in
theorem m_print_c (v : MS) (k : Int32) (hm : mOk v) : MI l D vwCl (CT cI cJ cC cZ) (MW a cI cJ cZ) y_M_print (wA y_M_print prog_8_method_56_code 3 (some .int)) { frames := 4, cells := 0, slots := 0, locals := 89 } [.ref (a 0), .int k] v ((m_print v k).1) (sO v (m_print v k).2) := by
  refine MI.of (cc := prog_8_method_56_code) (nL := 3) (by decide) rfl (Nat.le_of_ble_eq_true rfl) ?_
  intro p e s m below meth c A Q K ret
  refine z_lvE (lv' := [(0, .ref (a 0)), (1, .int k)]) rfl ?_
  obtain ⟨⟨hm1, hm2, hm3, hm4⟩, hmV, hmn, hmq, hmp⟩ := id hm
  refine z_aload_n (pc := 0) K d_M_print_0 rfl ?_
  refine z_iconst (pc := 1) K (v := 0) d_M_print_1 (by decide) ?_
  refine z_put (pc := 2) K (ref := "DemandTermsModel") (ws' := (MW a cI cJ cZ v)) d_M_print_2 hi_M ty_M ty_M_ok nm_M 0 rfl rfl 0 (by decide) k472 rfl rfl rfl rfl rfl (Nat.le_of_ble_eq_true rfl) rfl ?_
  refine z_aload_n (pc := 5) K d_M_print_5 rfl ?_
  refine z_iload_n (pc := 6) K d_M_print_6 rfl ?_
  refine z_cVi (pc := 7) K 0 (m_isBar_c _ _ ) (cwA K 1 k664 k666 ks34 k7 k667 q_M_isBar ⟨Nat.le_of_ble_eq_true rfl, Nat.le_of_ble_eq_true rfl⟩) d_M_print_7 rfl rfl rfl rfl rfl (Nat.le_of_ble_eq_true rfl) ⟨Nat.le_of_ble_eq_true rfl, Nat.le_of_ble_eq_true rfl⟩ ?_
  refine z_ifb_ne (pc := 10) K (tgt := 15) d_M_print_10 (by decide) (fun c10 => ?_) (fun c10 => ?_)
  · obtain ⟨ex, hx⟩ := hasIx_self (by omega) c10
    have hpk := hmp k.toNatClampNeg
    refine z_aload_n (pc := 15) K d_M_print_15 rfl ?_
    refine z_iconst (pc := 16) K (v := 0) d_M_print_16 (by decide) ?_
    refine z_eqi (y := nI 0) nI_0.symm ?_
    refine z_put (pc := 17) K (ref := "DemandTermsModel") (ws' := (MW a cI cJ cZ (sO v (0, (mO v).2)))) d_M_print_17 hi_M ty_M ty_M_ok nm_M 0 rfl rfl 21 (by decide) k493 rfl rfl rfl rfl rfl (Nat.le_of_ble_eq_true rfl) rfl ?_
    refine z_iconst (pc := 20) K (v := 0) d_M_print_20 (by decide) ?_
    refine z_istore_n (pc := 21) K d_M_print_21 rfl (by decide) rfl ?_
    have LP : ∀ (n i : Nat) (g : GS), i + n = mP v k.toNatClampNeg → g.1 + 300 * n ≤ 4800 → m_prl v k.toNatClampNeg n i g = m_prl v k.toNatClampNeg (mP v k.toNatClampNeg) 0 (0, (mO v).2) → zW p l e { frames := 4, cells := 0, slots := 0, locals := 89 } s m [.ref (a 0), .int k].toArray below meth c D vwCl A 3 0 0 Q (MW a cI cJ cZ (sO v g)) 22 [(2, .int (nI i)), (0, .ref (a 0)), (1, .int k)] [] := by
      intro n
      induction n with
      | zero =>
        intro i g hi hg hf
        refine z_iload_n (pc := 22) K d_M_print_22 rfl ?_
        refine z_aload_n (pc := 23) K d_M_print_23 rfl ?_
        refine z_get (pc := 24) K (ref := "DemandTermsModel") d_M_print_24 hi_M 0 rfl rfl 8 (by decide) k480 rfl rfl ?_
        refine z_iload_n (pc := 27) K d_M_print_27 rfl ?_
        refine z_iald (pc := 28) K d_M_print_28 4 0 rfl rfl (hasIx_in c10 hm3 (by decide)) ?_
        refine z_icmp_ge (pc := 29) K (tgt := 68) d_M_print_29 (by decide) (fun c29 => ?_) (fun c29 => ?_)
        · refine z_aload_n (pc := 68) K d_M_print_68 rfl ?_
          refine z_get (pc := 69) K (ref := "DemandTermsModel") d_M_print_69 hi_M 0 rfl rfl 21 (by decide) k493 rfl rfl ?_
          exact z_reti (pc := 72) ret d_M_print_72 (by rw [m_print, if_pos c10, ← hf] <;> rfl) (by rw [m_print, if_pos c10, ← hf] <;> rfl)
        · exact absurd (nI_le (a := (mP v k.toNatClampNeg)) (b := i) (by omega) (by omega)) c29
      | succ n ih =>
        intro i g hi hg hf
        refine z_iload_n (pc := 22) K d_M_print_22 rfl ?_
        refine z_aload_n (pc := 23) K d_M_print_23 rfl ?_
        refine z_get (pc := 24) K (ref := "DemandTermsModel") d_M_print_24 hi_M 0 rfl rfl 8 (by decide) k480 rfl rfl ?_
        refine z_iload_n (pc := 27) K d_M_print_27 rfl ?_
        refine z_iald (pc := 28) K d_M_print_28 4 0 rfl rfl (hasIx_in c10 hm3 (by decide)) ?_
        refine z_icmp_ge (pc := 29) K (tgt := 68) d_M_print_29 (by decide) (fun c29 => ?_) (fun c29 => ?_)
        · exact absurd c29 (nI_ge (a := i) (b := (mP v k.toNatClampNeg)) (by omega) (by omega))
        · refine z_iload_n (pc := 32) K d_M_print_32 rfl ?_
          refine z_if_le (pc := 33) K (tgt := 48) d_M_print_33 (by decide) (fun c33 => ?_) (fun c33 => ?_)
          · refine z_aload_n (pc := 48) K d_M_print_48 rfl ?_
            refine z_sipush (pc := 49) K (v := 600) d_M_print_49 (by decide) ?_
            refine z_bipush (pc := 52) K (v := 16) d_M_print_52 (by decide) ?_
            refine z_iload_n (pc := 54) K d_M_print_54 rfl ?_
            refine z_eqi ex ?_
            refine z_imul (pc := 55) K d_M_print_55 ?_
            refine z_iadd (pc := 56) K d_M_print_56 ?_
            refine z_iload_n (pc := 57) K d_M_print_57 rfl ?_
            refine z_iadd (pc := 58) K d_M_print_58 ?_
            refine z_eqi (ix600 _ i) ?_
            refine z_cVv (pc := 59) K 0 (m_putTerm_c (sO v g) (600 + 16 * k.toNatClampNeg + i) hm (by omega) (show g.1 + 400 ≤ 8000 by omega)) (cwA K 1 k748 k750 ks43 k7 k751 q_M_putTerm ⟨Nat.le_of_ble_eq_true rfl, Nat.le_of_ble_eq_true rfl⟩) d_M_print_59 rfl rfl rfl rfl rfl (Nat.le_of_ble_eq_true rfl) ⟨Nat.le_of_ble_eq_true rfl, Nat.le_of_ble_eq_true rfl⟩ ?_
            refine z_iinc (pc := 62) K (v := nI (i + 1)) d_M_print_62 0 rfl (inc1 i) (by decide) rfl ?_
            refine z_goto (pc := 65) K (tgt := 22) d_M_print_65 (by decide) ?_
            refine z_lv [0, 1, 2] rfl ?_
            exact ih (i + 1) _ (by omega) (by have h9 := m_pt_le v (600 + 16 * k.toNatClampNeg + i) g; skip; show (m_pt v (600 + 16 * k.toNatClampNeg + i) g).1 + _ ≤ _; omega) (by rw [← hf, m_prl, if_neg (fun q => absurd c33 (nI_nle q (by omega)))] <;> rfl)
          · refine z_aload_n (pc := 36) K d_M_print_36 rfl ?_
            refine z_bipush (pc := 37) K (v := 59) d_M_print_37 (by decide) ?_
            refine z_cVv (pc := 39) K 0 (m_put_c (sO v g) _ (show g.1 < 8000 by omega)) (cwA K 1 k744 k746 ks42 k7 k747 q_M_put ⟨Nat.le_of_ble_eq_true rfl, Nat.le_of_ble_eq_true rfl⟩) d_M_print_39 rfl rfl rfl rfl rfl (Nat.le_of_ble_eq_true rfl) ⟨Nat.le_of_ble_eq_true rfl, Nat.le_of_ble_eq_true rfl⟩ ?_
            refine z_aload_n (pc := 42) K d_M_print_42 rfl ?_
            refine z_bipush (pc := 43) K (v := 32) d_M_print_43 (by decide) ?_
            refine z_cVv (pc := 45) K 0 (m_put_c (sO v (m_put g 59)) _ (show g.1 + 1 < 8000 by omega)) (cwA K 1 k744 k746 ks42 k7 k747 q_M_put ⟨Nat.le_of_ble_eq_true rfl, Nat.le_of_ble_eq_true rfl⟩) d_M_print_45 rfl rfl rfl rfl rfl (Nat.le_of_ble_eq_true rfl) ⟨Nat.le_of_ble_eq_true rfl, Nat.le_of_ble_eq_true rfl⟩ ?_
            refine z_aload_n (pc := 48) K d_M_print_48 rfl ?_
            refine z_sipush (pc := 49) K (v := 600) d_M_print_49 (by decide) ?_
            refine z_bipush (pc := 52) K (v := 16) d_M_print_52 (by decide) ?_
            refine z_iload_n (pc := 54) K d_M_print_54 rfl ?_
            refine z_eqi ex ?_
            refine z_imul (pc := 55) K d_M_print_55 ?_
            refine z_iadd (pc := 56) K d_M_print_56 ?_
            refine z_iload_n (pc := 57) K d_M_print_57 rfl ?_
            refine z_iadd (pc := 58) K d_M_print_58 ?_
            refine z_eqi (ix600 _ i) ?_
            refine z_cVv (pc := 59) K 0 (m_putTerm_c (sO v (m_put (m_put g 59) 32)) (600 + 16 * k.toNatClampNeg + i) hm (by omega) (show g.1 + 1 + 1 + 400 ≤ 8000 by omega)) (cwA K 1 k748 k750 ks43 k7 k751 q_M_putTerm ⟨Nat.le_of_ble_eq_true rfl, Nat.le_of_ble_eq_true rfl⟩) d_M_print_59 rfl rfl rfl rfl rfl (Nat.le_of_ble_eq_true rfl) ⟨Nat.le_of_ble_eq_true rfl, Nat.le_of_ble_eq_true rfl⟩ ?_
            refine z_iinc (pc := 62) K (v := nI (i + 1)) d_M_print_62 0 rfl (inc1 i) (by decide) rfl ?_
            refine z_goto (pc := 65) K (tgt := 22) d_M_print_65 (by decide) ?_
            refine z_lv [0, 1, 2] rfl ?_
            exact ih (i + 1) _ (by omega) (by have h9 := m_pt_le v (600 + 16 * k.toNatClampNeg + i) (m_put (m_put g 59) 32); have h8 : (m_put (m_put g 59) 32).1 = g.1 + 2 := rfl; show (m_pt v (600 + 16 * k.toNatClampNeg + i) (m_put (m_put g 59) 32)).1 + _ ≤ _; omega) (by rw [← hf, m_prl, if_pos (Nat.pos_of_ne_zero (fun q => c33 (by rw [q]; decide)))] <;> rfl)
    refine z_lv [0, 1, 2] rfl ?_
    exact LP _ 0 (0, (mO v).2) (Nat.zero_add _) (by show 0 + 300 * _ ≤ 4800; omega) rfl
  · refine z_iconst (pc := 13) K (v := (-1)) d_M_print_13 (by decide) ?_
    exact z_reti (pc := 14) ret d_M_print_14 (by rw [m_print, if_neg (by rw [c10]; decide)] <;> rfl) (by rw [m_print, if_neg (by rw [c10]; decide)] <;> rfl)
end CM
