section CM
variable {l : Launch} {D : va_G} {a : Nat → Nat} {cI cJ cC cZ : ClassId}
set_option maxRecDepth 100000 in
set_option maxHeartbeats 4000000 in
theorem m_isName_c (v : MS) (x : Int32)  : MI l D vwCl (CT cI cJ cC cZ) (MW a cI cJ cZ) y_M_isName (wA y_M_isName prog_8_method_3_code 2 (some .boolean)) { frames := 0, cells := 0, slots := 0, locals := 0 } [.ref (a 0), .int x] v (bI (hasIx (mN v) x)) (v) := by
  refine MI.ofZ (cc := prog_8_method_3_code) (nL := 2) (by decide) rfl (Nat.le_of_ble_eq_true rfl) ?_
  intro p e s m below meth c A Q K ret
  refine z_lvE (lv' := [(0, .ref (a 0)), (1, .int x)]) rfl ?_
  refine z_iload_n (pc := 0) K d_M_isName_0 rfl ?_
  refine z_if_lt (pc := 1) K (tgt := 16) d_M_isName_1 (by decide) (fun c1 => ?_) (fun c1 => ?_)
  · refine z_iconst (pc := 16) K (v := 0) d_M_isName_16 (by decide) ?_
    refine z_eqi (y := bI false) rfl ?_
    exact z_reti (pc := 17) ret d_M_isName_17 (by simp [hasIx, c1]) rfl
  · refine z_iload_n (pc := 4) K d_M_isName_4 rfl ?_
    refine z_aload_n (pc := 5) K d_M_isName_5 rfl ?_
    refine z_get (pc := 6) K (ref := "DemandTermsModel") d_M_isName_6 hi_M 0 rfl rfl 2 (by decide) k474 rfl rfl ?_
    refine z_icmp_ge (pc := 9) K (tgt := 16) d_M_isName_9 (by decide) (fun c9 => ?_) (fun c9 => ?_)
    · refine z_iconst (pc := 16) K (v := 0) d_M_isName_16 (by decide) ?_
      refine z_eqi (y := bI false) rfl ?_
      exact z_reti (pc := 17) ret d_M_isName_17 (by simp [hasIx, c1, c9]) rfl
    · refine z_iconst (pc := 12) K (v := 1) d_M_isName_12 (by decide) ?_
      refine z_goto (pc := 13) K (tgt := 17) d_M_isName_13 (by decide) ?_
      refine z_eqi (y := bI true) rfl ?_
      exact z_reti (pc := 17) ret d_M_isName_17 (by simp [hasIx, c1, c9]) rfl
set_option maxRecDepth 100000 in
set_option maxHeartbeats 4000000 in
theorem m_isTerm_c (v : MS) (x : Int32)  : MI l D vwCl (CT cI cJ cC cZ) (MW a cI cJ cZ) y_M_isTerm (wA y_M_isTerm prog_8_method_4_code 2 (some .boolean)) { frames := 0, cells := 0, slots := 0, locals := 0 } [.ref (a 0), .int x] v (bI (hasIx (mT v) x)) (v) := by
  refine MI.ofZ (cc := prog_8_method_4_code) (nL := 2) (by decide) rfl (Nat.le_of_ble_eq_true rfl) ?_
  intro p e s m below meth c A Q K ret
  refine z_lvE (lv' := [(0, .ref (a 0)), (1, .int x)]) rfl ?_
  refine z_iload_n (pc := 0) K d_M_isTerm_0 rfl ?_
  refine z_if_lt (pc := 1) K (tgt := 16) d_M_isTerm_1 (by decide) (fun c1 => ?_) (fun c1 => ?_)
  · refine z_iconst (pc := 16) K (v := 0) d_M_isTerm_16 (by decide) ?_
    refine z_eqi (y := bI false) rfl ?_
    exact z_reti (pc := 17) ret d_M_isTerm_17 (by simp [hasIx, c1]) rfl
  · refine z_iload_n (pc := 4) K d_M_isTerm_4 rfl ?_
    refine z_aload_n (pc := 5) K d_M_isTerm_5 rfl ?_
    refine z_get (pc := 6) K (ref := "DemandTermsModel") d_M_isTerm_6 hi_M 0 rfl rfl 3 (by decide) k475 rfl rfl ?_
    refine z_icmp_ge (pc := 9) K (tgt := 16) d_M_isTerm_9 (by decide) (fun c9 => ?_) (fun c9 => ?_)
    · refine z_iconst (pc := 16) K (v := 0) d_M_isTerm_16 (by decide) ?_
      refine z_eqi (y := bI false) rfl ?_
      exact z_reti (pc := 17) ret d_M_isTerm_17 (by simp [hasIx, c1, c9]) rfl
    · refine z_iconst (pc := 12) K (v := 1) d_M_isTerm_12 (by decide) ?_
      refine z_goto (pc := 13) K (tgt := 17) d_M_isTerm_13 (by decide) ?_
      refine z_eqi (y := bI true) rfl ?_
      exact z_reti (pc := 17) ret d_M_isTerm_17 (by simp [hasIx, c1, c9]) rfl
set_option maxRecDepth 100000 in
set_option maxHeartbeats 4000000 in
theorem m_isBar_c (v : MS) (x : Int32)  : MI l D vwCl (CT cI cJ cC cZ) (MW a cI cJ cZ) y_M_isBar (wA y_M_isBar prog_8_method_5_code 2 (some .boolean)) { frames := 0, cells := 0, slots := 0, locals := 0 } [.ref (a 0), .int x] v (bI (hasIx (mB v) x)) (v) := by
  refine MI.ofZ (cc := prog_8_method_5_code) (nL := 2) (by decide) rfl (Nat.le_of_ble_eq_true rfl) ?_
  intro p e s m below meth c A Q K ret
  refine z_lvE (lv' := [(0, .ref (a 0)), (1, .int x)]) rfl ?_
  refine z_iload_n (pc := 0) K d_M_isBar_0 rfl ?_
  refine z_if_lt (pc := 1) K (tgt := 16) d_M_isBar_1 (by decide) (fun c1 => ?_) (fun c1 => ?_)
  · refine z_iconst (pc := 16) K (v := 0) d_M_isBar_16 (by decide) ?_
    refine z_eqi (y := bI false) rfl ?_
    exact z_reti (pc := 17) ret d_M_isBar_17 (by simp [hasIx, c1]) rfl
  · refine z_iload_n (pc := 4) K d_M_isBar_4 rfl ?_
    refine z_aload_n (pc := 5) K d_M_isBar_5 rfl ?_
    refine z_get (pc := 6) K (ref := "DemandTermsModel") d_M_isBar_6 hi_M 0 rfl rfl 4 (by decide) k476 rfl rfl ?_
    refine z_icmp_ge (pc := 9) K (tgt := 16) d_M_isBar_9 (by decide) (fun c9 => ?_) (fun c9 => ?_)
    · refine z_iconst (pc := 16) K (v := 0) d_M_isBar_16 (by decide) ?_
      refine z_eqi (y := bI false) rfl ?_
      exact z_reti (pc := 17) ret d_M_isBar_17 (by simp [hasIx, c1, c9]) rfl
    · refine z_iconst (pc := 12) K (v := 1) d_M_isBar_12 (by decide) ?_
      refine z_goto (pc := 13) K (tgt := 17) d_M_isBar_13 (by decide) ?_
      refine z_eqi (y := bI true) rfl ?_
      exact z_reti (pc := 17) ret d_M_isBar_17 (by simp [hasIx, c1, c9]) rfl
set_option maxRecDepth 100000 in
set_option maxHeartbeats 4000000 in
theorem m_isSaid_c (v : MS) (t : Nat) (b : Nat) (ht : t < 5420) (hb : b < 49) : MI l D vwCl (CT cI cJ cC cZ) (MW a cI cJ cZ) y_M_isSaid (wA y_M_isSaid prog_8_method_7_code 3 (some .boolean)) { frames := 0, cells := 0, slots := 0, locals := 0 } [.ref (a 0), .int (nI t), .int (vI b)] v (bI ((mL v).2 t b)) (v) := by
  refine MI.ofZ (cc := prog_8_method_7_code) (nL := 3) (by decide) rfl (Nat.le_of_ble_eq_true rfl) ?_
  intro p e s m below meth c A Q K ret
  refine z_lvE (lv' := [(0, .ref (a 0)), (1, .int (nI t)), (2, .int (vI b))]) rfl ?_
  refine z_aload_n (pc := 0) K d_M_isSaid_0 rfl ?_
  refine z_get (pc := 1) K (ref := "DemandTermsModel") d_M_isSaid_1 hi_M 0 rfl rfl 7 (by decide) k479 rfl rfl ?_
  refine z_bipush (pc := 4) K (v := 49) d_M_isSaid_4 (by decide) ?_
  refine z_iload_n (pc := 6) K d_M_isSaid_6 rfl ?_
  refine z_imul (pc := 7) K d_M_isSaid_7 ?_
  refine z_iload_n (pc := 8) K d_M_isSaid_8 rfl ?_
  refine z_iadd (pc := 9) K d_M_isSaid_9 ?_
  refine z_iconst (pc := 10) K (v := 1) d_M_isSaid_10 (by decide) ?_
  refine z_iadd (pc := 11) K d_M_isSaid_11 ?_
  refine z_zald (pc := 12) K d_M_isSaid_12 3 3 rfl rfl (in49 ht hb) ?_
  exact z_reti (pc := 13) ret d_M_isSaid_13 (by rw [cl49 ht hb, (dm49 hb).1, (dm49 hb).2]) rfl
set_option maxRecDepth 100000 in
set_option maxHeartbeats 4000000 in
theorem m_tell_c (v : MS) (t : Nat) (b : Nat) (x : Bool) (ht : t < 5420) (hb : b < 49) : MV l D vwCl (CT cI cJ cC cZ) (MW a cI cJ cZ) y_M_tell (wA y_M_tell prog_8_method_8_code 4 none) { frames := 0, cells := 0, slots := 0, locals := 0 } [.ref (a 0), .int (nI t), .int (vI b), .int (bI x)] v (sL v ((mL v).1, updS (mL v).2 t b x)) := by
  refine MV.of (cc := prog_8_method_8_code) (nL := 4) (by decide) rfl (Nat.le_of_ble_eq_true rfl) ?_
  intro p e s m below meth c A Q K ret
  refine z_lvE (lv' := [(0, .ref (a 0)), (1, .int (nI t)), (2, .int (vI b)), (3, .int (bI x))]) rfl ?_
  refine z_aload_n (pc := 0) K d_M_tell_0 rfl ?_
  refine z_get (pc := 1) K (ref := "DemandTermsModel") d_M_tell_1 hi_M 0 rfl rfl 7 (by decide) k479 rfl rfl ?_
  refine z_bipush (pc := 4) K (v := 49) d_M_tell_4 (by decide) ?_
  refine z_iload_n (pc := 6) K d_M_tell_6 rfl ?_
  refine z_imul (pc := 7) K d_M_tell_7 ?_
  refine z_iload_n (pc := 8) K d_M_tell_8 rfl ?_
  refine z_iadd (pc := 9) K d_M_tell_9 ?_
  refine z_iconst (pc := 10) K (v := 1) d_M_tell_10 (by decide) ?_
  refine z_iadd (pc := 11) K d_M_tell_11 ?_
  refine z_iload_n (pc := 12) K d_M_tell_12 rfl ?_
  refine z_zast (pc := 13) K (ws' := (MW a cI cJ cZ (sL v ((mL v).1, updS (mL v).2 t b x)))) d_M_tell_13 3 3 rfl rfl (in49 ht hb) (by rw [cl49 ht hb, w_b _ hb x]; rfl) ?_
  exact z_retv (pc := 14) ret d_M_tell_14 rfl
set_option maxRecDepth 100000 in
set_option maxHeartbeats 4000000 in
theorem m_full_c (v : MS) (t : Nat) (ht : t < 5420) (hn : (mL v).1 t < 16) (hv : mV v ((mL v).1 t) ≤ 48) : MV l D vwCl (CT cI cJ cC cZ) (MW a cI cJ cZ) y_M_full (wA y_M_full prog_8_method_9_code 3 none) { frames := 1, cells := 0, slots := 0, locals := 23 } [.ref (a 0), .int (nI t)] v (sL v (m_full (mV v) (mL v) t)) := by
  refine MV.of (cc := prog_8_method_9_code) (nL := 3) (by decide) rfl (Nat.le_of_ble_eq_true rfl) ?_
  intro p e s m below meth c A Q K ret
  refine z_lvE (lv' := [(0, .ref (a 0)), (1, .int (nI t))]) rfl ?_
  refine z_iconst (pc := 0) K (v := (-1)) d_M_full_0 (by decide) ?_
  refine z_istore_n (pc := 1) K d_M_full_1 rfl (by decide) rfl ?_
  have LP : ∀ (n b : Nat), b + n = 49 → zW p l e { frames := 1, cells := 0, slots := 0, locals := 23 } s m [.ref (a 0), .int (nI t)].toArray below meth c D vwCl A 3 0 0 Q (MW a cI cJ cZ (sL v ((mL v).1, setU (mL v).2 t (fun b => decide (b ≤ mV v ((mL v).1 t))) b))) 2 [(2, .int (vI b)), (0, .ref (a 0)), (1, .int (nI t))] [] := by
    intro n
    induction n with
    | zero =>
      intro b hi
      have hb : b = 49 := by omega
      subst hb
      refine z_iload_n (pc := 2) K d_M_full_2 rfl ?_
      refine z_bipush (pc := 3) K (v := 48) d_M_full_3 (by decide) ?_
      refine z_icmp_ge (pc := 5) K (tgt := 40) d_M_full_5 (by decide) (fun c5 => ?_) (fun c5 => ?_)
      · exact z_retv (pc := 40) ret d_M_full_40 rfl
      · exact absurd ((vI_le (k := 48) (by decide) (by omega)).mpr (by omega)) c5
    | succ n ih =>
      intro b hi
      refine z_iload_n (pc := 2) K d_M_full_2 rfl ?_
      refine z_bipush (pc := 3) K (v := 48) d_M_full_3 (by decide) ?_
      refine z_icmp_ge (pc := 5) K (tgt := 40) d_M_full_5 (by decide) (fun c5 => ?_) (fun c5 => ?_)
      · exact absurd ((vI_le (k := 48) (by decide) (by omega)).mp c5) (by omega)
      · refine z_aload_n (pc := 8) K d_M_full_8 rfl ?_
        refine z_iload_n (pc := 9) K d_M_full_9 rfl ?_
        refine z_iload_n (pc := 10) K d_M_full_10 rfl ?_
        refine z_iload_n (pc := 11) K d_M_full_11 rfl ?_
        refine z_aload_n (pc := 12) K d_M_full_12 rfl ?_
        refine z_get (pc := 13) K (ref := "DemandTermsModel") d_M_full_13 hi_M 0 rfl rfl 1 (by decide) k473 rfl rfl ?_
        refine z_aload_n (pc := 16) K d_M_full_16 rfl ?_
        refine z_get (pc := 17) K (ref := "DemandTermsModel") d_M_full_17 hi_M 0 rfl rfl 6 (by decide) k478 rfl rfl ?_
        refine z_iload_n (pc := 20) K d_M_full_20 rfl ?_
        refine z_iald (pc := 21) K d_M_full_21 2 0 rfl rfl (vp_in_nI ht (by decide)) ?_
        refine z_iald (pc := 22) K d_M_full_22 1 0 rfl rfl (vp_in_nI (by rw [nI_clamp (show t < 2 ^ 31 by omega)]; exact hn) (by decide)) ?_
        refine z_icmp_ge (pc := 23) K (tgt := 30) d_M_full_23 (by decide) (fun c23 => ?_) (fun c23 => ?_)
        · refine z_iconst (pc := 30) K (v := 0) d_M_full_30 (by decide) ?_
          refine z_eqi (y := bI false) rfl ?_
          refine z_cVv (pc := 31) K 0 (m_tell_c _ t b _ ht (by omega)) (cwA K 3 k548 k550 ks14 k7 k551 q_M_tell ⟨Nat.le_of_ble_eq_true rfl, Nat.le_of_ble_eq_true rfl⟩) d_M_full_31 rfl rfl rfl rfl rfl (Nat.le_of_ble_eq_true rfl) ⟨Nat.le_of_ble_eq_true rfl, Nat.le_of_ble_eq_true rfl⟩ ?_
          refine z_iinc (pc := 34) K (v := vI (b + 1)) d_M_full_34 0 rfl (vI_inc b) (by decide) rfl ?_
          refine z_goto (pc := 37) K (tgt := 2) d_M_full_37 (by decide) ?_
          refine z_lv [0, 1, 2] rfl ?_
          exact zW_cast (by rw [setU_s _ _ _ _ _ (by rw [nI_clamp (show t < 2 ^ 31 by omega), nI_clamp (show (mL v).1 t < 2 ^ 31 by omega)] at c23; simp only [vI_le (show mV v ((mL v).1 t) < 2 ^ 30 by omega) (show b < 2 ^ 30 by omega)] at c23; first | exact (decide_eq_true (by omega)).symm | exact (decide_eq_false (by omega)).symm)]) (ih (b + 1) (by omega))
        · refine z_iconst (pc := 26) K (v := 1) d_M_full_26 (by decide) ?_
          refine z_goto (pc := 27) K (tgt := 31) d_M_full_27 (by decide) ?_
          refine z_eqi (y := bI true) rfl ?_
          refine z_cVv (pc := 31) K 0 (m_tell_c _ t b _ ht (by omega)) (cwA K 3 k548 k550 ks14 k7 k551 q_M_tell ⟨Nat.le_of_ble_eq_true rfl, Nat.le_of_ble_eq_true rfl⟩) d_M_full_31 rfl rfl rfl rfl rfl (Nat.le_of_ble_eq_true rfl) ⟨Nat.le_of_ble_eq_true rfl, Nat.le_of_ble_eq_true rfl⟩ ?_
          refine z_iinc (pc := 34) K (v := vI (b + 1)) d_M_full_34 0 rfl (vI_inc b) (by decide) rfl ?_
          refine z_goto (pc := 37) K (tgt := 2) d_M_full_37 (by decide) ?_
          refine z_lv [0, 1, 2] rfl ?_
          exact zW_cast (by rw [setU_s _ _ _ _ _ (by rw [nI_clamp (show t < 2 ^ 31 by omega), nI_clamp (show (mL v).1 t < 2 ^ 31 by omega)] at c23; simp only [vI_le (show mV v ((mL v).1 t) < 2 ^ 30 by omega) (show b < 2 ^ 30 by omega)] at c23; first | exact (decide_eq_true (by omega)).symm | exact (decide_eq_false (by omega)).symm)]) (ih (b + 1) (by omega))
  refine z_lv [0, 1, 2] rfl ?_
  exact zW_cast (by rw [setU_0]) (LP 49 0 rfl)
end CM
