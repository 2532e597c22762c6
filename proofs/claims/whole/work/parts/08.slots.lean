section CM
variable {l : Launch} {D : va_G} {a : Nat → Nat} {cI cJ cC cZ : ClassId}
set_option maxRecDepth 100000 in
set_option maxHeartbeats 4000000 in
theorem m_isName_c (v : MS) (x : Int32)  : MI l D vwCl (CT cI cJ cC cZ) (MW a cI cJ cZ) y_M_isName (wA y_M_isName prog_8_method_3_code 2 (some .boolean)) { frames := 0, cells := 0, slots := 0, locals := 0 } [.ref (a 0), .int x] v (bI (hasIx (mN v) x)) (v) := by
  refine MI.ofZ (cc := prog_8_method_3_code) (nL := 2) (by decide) rfl (Nat.le_of_ble_eq_true rfl) ?_
  intro p e s m below meth c A Q K ret
  refine z_lvE (lv' := [(0, .ref (a 0)), (1, .int x)]) rfl ?_
  refine z_iload_n (pc := 0) K d_M_isName_0 rfl ?_
  refine z_if_lt (pc := 1) K (tgt := 16) d_M_isName_1 (by decide) (fun c1 => ?_) (fun c1 => ?_)
  · refine z_iconst (pc := 16) K (v := 0) d_M_isName_16 (by decide) ?_
    refine z_eqi (y := bI false) rfl ?_
    exact z_reti (pc := 17) ret d_M_isName_17 (by simp [hasIx, c1]) rfl
  · refine z_iload_n (pc := 4) K d_M_isName_4 rfl ?_
    refine z_aload_n (pc := 5) K d_M_isName_5 rfl ?_
    refine z_get (pc := 6) K (ref := "DemandTermsModel") d_M_isName_6 hi_M 0 rfl rfl 2 (by decide) k474 rfl rfl ?_
    refine z_icmp_ge (pc := 9) K (tgt := 16) d_M_isName_9 (by decide) (fun c9 => ?_) (fun c9 => ?_)
    · refine z_iconst (pc := 16) K (v := 0) d_M_isName_16 (by decide) ?_
      refine z_eqi (y := bI false) rfl ?_
      exact z_reti (pc := 17) ret d_M_isName_17 (by simp [hasIx, c1, c9]) rfl
    · refine z_iconst (pc := 12) K (v := 1) d_M_isName_12 (by decide) ?_
      refine z_goto (pc := 13) K (tgt := 17) d_M_isName_13 (by decide) ?_
      refine z_eqi (y := bI true) rfl ?_
      exact z_reti (pc := 17) ret d_M_isName_17 (by simp [hasIx, c1, c9]) rfl
set_option maxRecDepth 100000 in
set_option maxHeartbeats 4000000 in
theorem m_isTerm_c (v : MS) (x : Int32)  : MI l D vwCl (CT cI cJ cC cZ) (MW a cI cJ cZ) y_M_isTerm (wA y_M_isTerm prog_8_method_4_code 2 (some .boolean)) { frames := 0, cells := 0, slots := 0, locals := 0 } [.ref (a 0), .int x] v (bI (hasIx (mT v) x)) (v) := by
  refine MI.ofZ (cc := prog_8_method_4_code) (nL := 2) (by decide) rfl (Nat.le_of_ble_eq_true rfl) ?_
  intro p e s m below meth c A Q K ret
  refine z_lvE (lv' := [(0, .ref (a 0)), (1, .int x)]) rfl ?_
  refine z_iload_n (pc := 0) K d_M_isTerm_0 rfl ?_
  refine z_if_lt (pc := 1) K (tgt := 16) d_M_isTerm_1 (by decide) (fun c1 => ?_) (fun c1 => ?_)
  · refine z_iconst (pc := 16) K (v := 0) d_M_isTerm_16 (by decide) ?_
    refine z_eqi (y := bI false) rfl ?_
    exact z_reti (pc := 17) ret d_M_isTerm_17 (by simp [hasIx, c1]) rfl
  · refine z_iload_n (pc := 4) K d_M_isTerm_4 rfl ?_
    refine z_aload_n (pc := 5) K d_M_isTerm_5 rfl ?_
    refine z_get (pc := 6) K (ref := "DemandTermsModel") d_M_isTerm_6 hi_M 0 rfl rfl 3 (by decide) k475 rfl rfl ?_
    refine z_icmp_ge (pc := 9) K (tgt := 16) d_M_isTerm_9 (by decide) (fun c9 => ?_) (fun c9 => ?_)
    · refine z_iconst (pc := 16) K (v := 0) d_M_isTerm_16 (by decide) ?_
      refine z_eqi (y := bI false) rfl ?_
      exact z_reti (pc := 17) ret d_M_isTerm_17 (by simp [hasIx, c1, c9]) rfl
    · refine z_iconst (pc := 12) K (v := 1) d_M_isTerm_12 (by decide) ?_
      refine z_goto (pc := 13) K (tgt := 17) d_M_isTerm_13 (by decide) ?_
      refine z_eqi (y := bI true) rfl ?_
      exact z_reti (pc := 17) ret d_M_isTerm_17 (by simp [hasIx, c1, c9]) rfl
set_option maxRecDepth 100000 in
set_option maxHeartbeats 4000000 in
theorem m_isBar_c (v : MS) (x : Int32)  : MI l D vwCl (CT cI cJ cC cZ) (MW a cI cJ cZ) y_M_isBar (wA y_M_isBar prog_8_method_5_code 2 (some .boolean)) { frames := 0, cells := 0, slots := 0, locals := 0 } [.ref (a 0), .int x] v (bI (hasIx (mB v) x)) (v) := by
  refine MI.ofZ (cc := prog_8_method_5_code) (nL := 2) (by decide) rfl (Nat.le_of_ble_eq_true rfl) ?_
  intro p e s m below meth c A Q K ret
  refine z_lvE (lv' := [(0, .ref (a 0)), (1, .int x)]) rfl ?_
  refine z_iload_n (pc := 0) K d_M_isBar_0 rfl ?_
  refine z_if_lt (pc := 1) K (tgt := 16) d_M_isBar_1 (by decide) (fun c1 => ?_) (fun c1 => ?_)
  · refine z_iconst (pc := 16) K (v := 0) d_M_isBar_16 (by decide) ?_
    refine z_eqi (y := bI false) rfl ?_
    exact z_reti (pc := 17) ret d_M_isBar_17 (by simp [hasIx, c1]) rfl
  · refine z_iload_n (pc := 4) K d_M_isBar_4 rfl ?_
    refine z_aload_n (pc := 5) K d_M_isBar_5 rfl ?_
    refine z_get (pc := 6) K (ref := "DemandTermsModel") d_M_isBar_6 hi_M 0 rfl rfl 4 (by decide) k476 rfl rfl ?_
    refine z_icmp_ge (pc := 9) K (tgt := 16) d_M_isBar_9 (by decide) (fun c9 => ?_) (fun c9 => ?_)
    · refine z_iconst (pc := 16) K (v := 0) d_M_isBar_16 (by decide) ?_
      refine z_eqi (y := bI false) rfl ?_
      exact z_reti (pc := 17) ret d_M_isBar_17 (by simp [hasIx, c1, c9]) rfl
    · refine z_iconst (pc := 12) K (v := 1) d_M_isBar_12 (by decide) ?_
      refine z_goto (pc := 13) K (tgt := 17) d_M_isBar_13 (by decide) ?_
      refine z_eqi (y := bI true) rfl ?_
      exact z_reti (pc := 17) ret d_M_isBar_17 (by simp [hasIx, c1, c9]) rfl
set_option maxRecDepth 100000 in
set_option maxHeartbeats 4000000 in
theorem m_isSaid_c (v : MS) (t : Nat) (b : Nat) (ht : t < 5420) (hb : b < 49) : MI l D vwCl (CT cI cJ cC cZ) (MW a cI cJ cZ) y_M_isSaid (wA y_M_isSaid prog_8_method_7_code 3 (some .boolean)) { frames := 0, cells := 0, slots := 0, locals := 0 } [.ref (a 0), .int (nI t), .int (vI b)] v (bI ((mL v).2 t b)) (v) := by
  refine MI.ofZ (cc := prog_8_method_7_code) (nL := 3) (by decide) rfl (Nat.le_of_ble_eq_true rfl) ?_
  intro p e s m below meth c A Q K ret
  refine z_lvE (lv' := [(0, .ref (a 0)), (1, .int (nI t)), (2, .int (vI b))]) rfl ?_
  refine z_aload_n (pc := 0) K d_M_isSaid_0 rfl ?_
  refine z_get (pc := 1) K (ref := "DemandTermsModel") d_M_isSaid_1 hi_M 0 rfl rfl 7 (by decide) k479 rfl rfl ?_
  refine z_bipush (pc := 4) K (v := 49) d_M_isSaid_4 (by decide) ?_
  refine z_iload_n (pc := 6) K d_M_isSaid_6 rfl ?_
  refine z_imul (pc := 7) K d_M_isSaid_7 ?_
  refine z_iload_n (pc := 8) K d_M_isSaid_8 rfl ?_
  refine z_iadd (pc := 9) K d_M_isSaid_9 ?_
  refine z_iconst (pc := 10) K (v := 1) d_M_isSaid_10 (by decide) ?_
  refine z_iadd (pc := 11) K d_M_isSaid_11 ?_
  refine z_zald (pc := 12) K d_M_isSaid_12 3 3 rfl rfl (in49 ht hb) ?_
  exact z_reti (pc := 13) ret d_M_isSaid_13 (by rw [cl49 ht hb, (dm49 hb).1, (dm49 hb).2]) rfl
set_option maxRecDepth 100000 in
set_option maxHeartbeats 4000000 in
theorem m_tell_c (v : MS) (t : Nat) (b : Nat) (x : Bool) (ht : t < 5420) (hb : b < 49) : MV l D vwCl (CT cI cJ cC cZ) (MW a cI cJ cZ) y_M_tell (wA y_M_tell prog_8_method_8_code 4 none) { frames := 0, cells := 0, slots := 0, locals := 0 } [.ref (a 0), .int (nI t), .int (vI b), .int (bI x)] v (sL v ((mL v).1, updS (mL v).2 t b x)) := by
  refine MV.of (cc := prog_8_method_8_code) (nL := 4) (by decide) rfl (Nat.le_of_ble_eq_true rfl) ?_
  intro p e s m below meth c A Q K ret
  refine z_lvE (lv' := [(0, .ref (a 0)), (1, .int (nI t)), (2, .int (vI b)), (3, .int (bI x))]) rfl ?_
  refine z_aload_n (pc := 0) K d_M_tell_0 rfl ?_
  refine z_get (pc := 1) K (ref := "DemandTermsModel") d_M_tell_1 hi_M 0 rfl rfl 7 (by decide) k479 rfl rfl ?_
  refine z_bipush (pc := 4) K (v := 49) d_M_tell_4 (by decide) ?_
  refine z_iload_n (pc := 6) K d_M_tell_6 rfl ?_
  refine z_imul (pc := 7) K d_M_tell_7 ?_
  refine z_iload_n (pc := 8) K d_M_tell_8 rfl ?_
  refine z_iadd (pc := 9) K d_M_tell_9 ?_
  refine z_iconst (pc := 10) K (v := 1) d_M_tell_10 (by decide) ?_
  refine z_iadd (pc := 11) K d_M_tell_11 ?_
  refine z_iload_n (pc := 12) K d_M_tell_12 rfl ?_
  refine z_zast (pc := 13) K (ws' := (MW a cI cJ cZ (sL v ((mL v).1, updS (mL v).2 t b x)))) d_M_tell_13 3 3 rfl rfl (in49 ht hb) (by rw [cl49 ht hb, w_b _ hb x]; rfl) ?_
  exact z_retv (pc := 14) ret d_M_tell_14 rfl
set_option maxRecDepth 100000 in
set_option maxHeartbeats 4000000 in
theorem m_full_c (v : MS) (t : Nat) (ht : t < 5420) (hn : (mL v).1 t < 16) (hv : mV v ((mL v).1 t) ≤ 48) : MV l D vwCl (CT cI cJ cC cZ) (MW a cI cJ cZ) y_M_full (wA y_M_full prog_8_method_9_code 3 none) { frames := 1, cells := 0, slots := 0, locals := 23 } [.ref (a 0), .int (nI t)] v (sL v (m_full (mV v) (mL v) t)) := by
  refine MV.of (cc := prog_8_method_9_code) (nL := 3) (by decide) rfl (Nat.le_of_ble_eq_true rfl) ?_
  intro p e s m below meth c A Q K ret
  refine z_lvE (lv' := [(0, .ref (a 0)), (1, .int (nI t))]) rfl ?_
  refine z_iconst (pc := 0) K (v := (-1)) d_M_full_0 (by decide) ?_
  refine z_istore_n (pc := 1) K d_M_full_1 rfl (by decide) rfl ?_
  have LP : ∀ (n b : Nat), b + n = 49 → zW p l e { frames := 1, cells := 0, slots := 0, locals := 23 } s m [.ref (a 0), .int (nI t)].toArray below meth c D vwCl A 3 0 0 Q (MW a cI cJ cZ (sL v ((mL v).1, setU (mL v).2 t (fun b => decide (b ≤ mV v ((mL v).1 t))) b))) 2 [(2, .int (vI b)), (0, .ref (a 0)), (1, .int (nI t))] [] := by
    intro n
    induction n with
    | zero =>
      intro b hi
      have hb : b = 49 := by omega
      subst hb
      refine z_iload_n (pc := 2) K d_M_full_2 rfl ?_
      refine z_bipush (pc := 3) K (v := 48) d_M_full_3 (by decide) ?_
      refine z_icmp_ge (pc := 5) K (tgt := 40) d_M_full_5 (by decide) (fun c5 => ?_) (fun c5 => ?_)
      · exact z_retv (pc := 40) ret d_M_full_40 rfl
      · exact absurd ((vI_le (k := 48) (by decide) (by omega)).mpr (by omega)) c5
    | succ n ih =>
      intro b hi
      refine z_iload_n (pc := 2) K d_M_full_2 rfl ?_
      refine z_bipush (pc := 3) K (v := 48) d_M_full_3 (by decide) ?_
      refine z_icmp_ge (pc := 5) K (tgt := 40) d_M_full_5 (by decide) (fun c5 => ?_) (fun c5 => ?_)
      · exact absurd ((vI_le (k := 48) (by decide) (by omega)).mp c5) (by omega)
      · refine z_aload_n (pc := 8) K d_M_full_8 rfl ?_
        refine z_iload_n (pc := 9) K d_M_full_9 rfl ?_
        refine z_iload_n (pc := 10) K d_M_full_10 rfl ?_
        refine z_iload_n (pc := 11) K d_M_full_11 rfl ?_
        refine z_aload_n (pc := 12) K d_M_full_12 rfl ?_
        refine z_get (pc := 13) K (ref := "DemandTermsModel") d_M_full_13 hi_M 0 rfl rfl 1 (by decide) k473 rfl rfl ?_
        refine z_aload_n (pc := 16) K d_M_full_16 rfl ?_
        refine z_get (pc := 17) K (ref := "DemandTermsModel") d_M_full_17 hi_M 0 rfl rfl 6 (by decide) k478 rfl rfl ?_
        refine z_iload_n (pc := 20) K d_M_full_20 rfl ?_
        refine z_iald (pc := 21) K d_M_full_21 2 0 rfl rfl (vp_in_nI ht (by decide)) ?_
        refine z_iald (pc := 22) K d_M_full_22 1 0 rfl rfl (vp_in_nI (by rw [nI_clamp (show t < 2 ^ 31 by omega)]; exact hn) (by decide)) ?_
        refine z_icmp_ge (pc := 23) K (tgt := 30) d_M_full_23 (by decide) (fun c23 => ?_) (fun c23 => ?_)
        · refine z_iconst (pc := 30) K (v := 0) d_M_full_30 (by decide) ?_
          refine z_eqi (y := bI false) rfl ?_
          refine z_cVv (pc := 31) K 0 (m_tell_c _ t b _ ht (by omega)) (cwA K 3 k548 k550 ks14 k7 k551 q_M_tell ⟨Nat.le_of_ble_eq_true rfl, Nat.le_of_ble_eq_true rfl⟩) d_M_full_31 rfl rfl rfl rfl rfl (Nat.le_of_ble_eq_true rfl) ⟨Nat.le_of_ble_eq_true rfl, Nat.le_of_ble_eq_true rfl⟩ ?_
          refine z_iinc (pc := 34) K (v := vI (b + 1)) d_M_full_34 0 rfl (vI_inc b) (by decide) rfl ?_
          refine z_goto (pc := 37) K (tgt := 2) d_M_full_37 (by decide) ?_
          refine z_lv [0, 1, 2] rfl ?_
          exact zW_cast (by rw [setU_s _ _ _ _ _ (by rw [nI_clamp (show t < 2 ^ 31 by omega), nI_clamp (show (mL v).1 t < 2 ^ 31 by omega)] at c23; simp only [vI_le (show mV v ((mL v).1 t) < 2 ^ 30 by omega) (show b < 2 ^ 30 by omega)] at c23; first | exact (decide_eq_true (by omega)).symm | exact (decide_eq_false (by omega)).symm)]) (ih (b + 1) (by omega))
        · refine z_iconst (pc := 26) K (v := 1) d_M_full_26 (by decide) ?_
          refine z_goto (pc := 27) K (tgt := 31) d_M_full_27 (by decide) ?_
          refine z_eqi (y := bI true) rfl ?_
          refine z_cVv (pc := 31) K 0 (m_tell_c _ t b _ ht (by omega)) (cwA K 3 k548 k550 ks14 k7 k551 q_M_tell ⟨Nat.le_of_ble_eq_true rfl, Nat.le_of_ble_eq_true rfl⟩) d_M_full_31 rfl rfl rfl rfl rfl (Nat.le_of_ble_eq_true rfl) ⟨Nat.le_of_ble_eq_true rfl, Nat.le_of_ble_eq_true rfl⟩ ?_
          refine z_iinc (pc := 34) K (v := vI (b + 1)) d_M_full_34 0 rfl (vI_inc b) (by decide) rfl ?_
          refine z_goto (pc := 37) K (tgt := 2) d_M_full_37 (by decide) ?_
          refine z_lv [0, 1, 2] rfl ?_
          exact zW_cast (by rw [setU_s _ _ _ _ _ (by rw [nI_clamp (show t < 2 ^ 31 by omega), nI_clamp (show (mL v).1 t < 2 ^ 31 by omega)] at c23; simp only [vI_le (show mV v ((mL v).1 t) < 2 ^ 30 by omega) (show b < 2 ^ 30 by omega)] at c23; first | exact (decide_eq_true (by omega)).symm | exact (decide_eq_false (by omega)).symm)]) (ih (b + 1) (by omega))
  refine z_lv [0, 1, 2] rfl ?_
  exact zW_cast (by rw [setU_0]) (LP 49 0 rfl)
set_option maxRecDepth 100000 in
set_option maxHeartbeats 4000000 in
theorem m_make_c (v : MS) (t : Nat) (x : Nat) (set : Int64) (w : Bool) (ht : t < 5420) (hx : x < 16) (hv : mV v x ≤ 48) : MV l D vwCl (CT cI cJ cC cZ) (MW a cI cJ cZ) y_M_make (wA y_M_make prog_8_method_10_code 7 none) { frames := 1, cells := 0, slots := 0, locals := 23 } [.ref (a 0), .int (nI t), .int (nI x), .long set, .int (bI w)] v (sL v (m_make (mV v) (mL v) t x set w)) := by
  refine MV.of (cc := prog_8_method_10_code) (nL := 7) (by decide) rfl (Nat.le_of_ble_eq_true rfl) ?_
  intro p e s m below meth c A Q K ret
  refine z_lvE (lv' := [(0, .ref (a 0)), (1, .int (nI t)), (2, .int (nI x)), (3, .long set), (5, .int (bI w))]) rfl ?_
  have LP : ∀ (n i : Nat), i + n = 48 → zW p l e { frames := 1, cells := 0, slots := 0, locals := 23 } s m [.ref (a 0), .int (nI t), .int (nI x), .long set, .int (bI w)].toArray below meth c D vwCl A 7 0 0 Q (MW a cI cJ cZ (sL v (updN (mL v).1 t x, setU (mL v).2 t (m_mk (mV v) x set w) (i + 1)))) 26 [(6, .int (nI i)), (0, .ref (a 0)), (1, .int (nI t)), (2, .int (nI x)), (3, .long set), (5, .int (bI w))] [] := by
    intro n
    induction n with
    | zero =>
      intro i hi
      have hb : i = 48 := by omega
      subst hb
      refine z_iload (pc := 26) K d_M_make_26 rfl ?_
      refine z_bipush (pc := 28) K (v := 48) d_M_make_28 (by decide) ?_
      refine z_icmp_ge (pc := 30) K (tgt := 83) d_M_make_30 (by decide) (fun c30 => ?_) (fun c30 => ?_)
      · exact z_retv (pc := 83) ret d_M_make_83 rfl
      · exact absurd (nI_le (a := 48) (b := 48) (by omega) (by omega)) c30
    | succ n ih =>
      intro i hi
      refine z_iload (pc := 26) K d_M_make_26 rfl ?_
      refine z_bipush (pc := 28) K (v := 48) d_M_make_28 (by decide) ?_
      refine z_icmp_ge (pc := 30) K (tgt := 83) d_M_make_30 (by decide) (fun c30 => ?_) (fun c30 => ?_)
      · exact absurd c30 (nI_ge (a := i) (b := 48) (by omega) (by omega))
      · refine z_aload_n (pc := 33) K d_M_make_33 rfl ?_
        refine z_iload_n (pc := 34) K d_M_make_34 rfl ?_
        refine z_iload (pc := 35) K d_M_make_35 rfl ?_
        refine z_eqi (y := vI (i + 1)) (vI_s i).symm ?_
        refine z_iload (pc := 37) K d_M_make_37 rfl ?_
        refine z_aload_n (pc := 39) K d_M_make_39 rfl ?_
        refine z_get (pc := 40) K (ref := "DemandTermsModel") d_M_make_40 hi_M 0 rfl rfl 1 (by decide) k473 rfl rfl ?_
        refine z_iload_n (pc := 43) K d_M_make_43 rfl ?_
        refine z_iald (pc := 44) K d_M_make_44 1 0 rfl rfl (vp_in_nI hx (by decide)) ?_
        refine z_icmp_ge (pc := 45) K (tgt := 73) d_M_make_45 (by decide) (fun c45 => ?_) (fun c45 => ?_)
        · refine z_iconst (pc := 73) K (v := 0) d_M_make_73 (by decide) ?_
          refine z_eqi (y := bI false) rfl ?_
          refine z_cVv (pc := 74) K 0 (m_tell_c _ t (i + 1) _ ht (by omega)) (cwA K 3 k548 k550 ks14 k7 k551 q_M_tell ⟨Nat.le_of_ble_eq_true rfl, Nat.le_of_ble_eq_true rfl⟩) d_M_make_74 rfl rfl rfl rfl rfl (Nat.le_of_ble_eq_true rfl) ⟨Nat.le_of_ble_eq_true rfl, Nat.le_of_ble_eq_true rfl⟩ ?_
          refine z_iinc (pc := 77) K (v := nI (i + 1)) d_M_make_77 0 rfl (inc1 i) (by decide) rfl ?_
          refine z_goto (pc := 80) K (tgt := 26) d_M_make_80 (by decide) ?_
          refine z_lv [0, 1, 2, 3, 4, 5] rfl ?_
          exact zW_cast (by rw [setU_s _ _ _ _ _ (mk_no (fun q => absurd (by rw [nI_clamp (show x < 2 ^ 31 by omega)] at c45; exact c45) (nI_ge q (by omega))))]) (ih (i + 1) (by omega))
        · refine z_lload_n (pc := 48) K d_M_make_48 rfl ?_
          refine z_iload (pc := 49) K d_M_make_49 rfl ?_
          refine z_lshr (pc := 51) K d_M_make_51 ?_
          refine z_lconst (pc := 52) K (v := 1) d_M_make_52 (by decide) ?_
          refine z_land (pc := 53) K d_M_make_53 ?_
          refine z_lconst (pc := 54) K (v := 1) d_M_make_54 (by decide) ?_
          refine z_lcmp (pc := 55) K d_M_make_55 ?_
          refine z_ifl_ne (pc := 56) K (tgt := 63) d_M_make_56 (by decide) (fun c56 => ?_) (fun c56 => ?_)
          · refine z_iconst (pc := 63) K (v := 0) d_M_make_63 (by decide) ?_
            refine z_iload (pc := 64) K d_M_make_64 rfl ?_
            refine z_icmp_ne (pc := 66) K (tgt := 73) d_M_make_66 (by decide) (fun c66 => ?_) (fun c66 => ?_)
            · refine z_iconst (pc := 73) K (v := 0) d_M_make_73 (by decide) ?_
              refine z_eqi (y := bI false) rfl ?_
              refine z_cVv (pc := 74) K 0 (m_tell_c _ t (i + 1) _ ht (by omega)) (cwA K 3 k548 k550 ks14 k7 k551 q_M_tell ⟨Nat.le_of_ble_eq_true rfl, Nat.le_of_ble_eq_true rfl⟩) d_M_make_74 rfl rfl rfl rfl rfl (Nat.le_of_ble_eq_true rfl) ⟨Nat.le_of_ble_eq_true rfl, Nat.le_of_ble_eq_true rfl⟩ ?_
              refine z_iinc (pc := 77) K (v := nI (i + 1)) d_M_make_77 0 rfl (inc1 i) (by decide) rfl ?_
              refine z_goto (pc := 80) K (tgt := 26) d_M_make_80 (by decide) ?_
              refine z_lv [0, 1, 2, 3, 4, 5] rfl ?_
              exact zW_cast (by rw [setU_s _ _ _ _ _ (mk_yes (show i < mV v x from Nat.lt_of_not_le (fun q => c45 (by rw [nI_clamp (show x < 2 ^ 31 by omega)]; exact nI_le q (by omega)))) (by rw [sbit_f c56]; cases w <;> first | rfl | exact absurd (bI_z.mpr rfl) c66))]) (ih (i + 1) (by omega))
            · refine z_iconst (pc := 69) K (v := 1) d_M_make_69 (by decide) ?_
              refine z_goto (pc := 70) K (tgt := 74) d_M_make_70 (by decide) ?_
              refine z_eqi (y := bI true) rfl ?_
              refine z_cVv (pc := 74) K 0 (m_tell_c _ t (i + 1) _ ht (by omega)) (cwA K 3 k548 k550 ks14 k7 k551 q_M_tell ⟨Nat.le_of_ble_eq_true rfl, Nat.le_of_ble_eq_true rfl⟩) d_M_make_74 rfl rfl rfl rfl rfl (Nat.le_of_ble_eq_true rfl) ⟨Nat.le_of_ble_eq_true rfl, Nat.le_of_ble_eq_true rfl⟩ ?_
              refine z_iinc (pc := 77) K (v := nI (i + 1)) d_M_make_77 0 rfl (inc1 i) (by decide) rfl ?_
              refine z_goto (pc := 80) K (tgt := 26) d_M_make_80 (by decide) ?_
              refine z_lv [0, 1, 2, 3, 4, 5] rfl ?_
              exact zW_cast (by rw [setU_s _ _ _ _ _ (mk_yes (show i < mV v x from Nat.lt_of_not_le (fun q => c45 (by rw [nI_clamp (show x < 2 ^ 31 by omega)]; exact nI_le q (by omega)))) (by rw [sbit_f c56, bI_z.mp c66]; rfl))]) (ih (i + 1) (by omega))
          · refine z_iconst (pc := 59) K (v := 1) d_M_make_59 (by decide) ?_
            refine z_goto (pc := 60) K (tgt := 64) d_M_make_60 (by decide) ?_
            refine z_iload (pc := 64) K d_M_make_64 rfl ?_
            refine z_icmp_ne (pc := 66) K (tgt := 73) d_M_make_66 (by decide) (fun c66 => ?_) (fun c66 => ?_)
            · refine z_iconst (pc := 73) K (v := 0) d_M_make_73 (by decide) ?_
              refine z_eqi (y := bI false) rfl ?_
              refine z_cVv (pc := 74) K 0 (m_tell_c _ t (i + 1) _ ht (by omega)) (cwA K 3 k548 k550 ks14 k7 k551 q_M_tell ⟨Nat.le_of_ble_eq_true rfl, Nat.le_of_ble_eq_true rfl⟩) d_M_make_74 rfl rfl rfl rfl rfl (Nat.le_of_ble_eq_true rfl) ⟨Nat.le_of_ble_eq_true rfl, Nat.le_of_ble_eq_true rfl⟩ ?_
              refine z_iinc (pc := 77) K (v := nI (i + 1)) d_M_make_77 0 rfl (inc1 i) (by decide) rfl ?_
              refine z_goto (pc := 80) K (tgt := 26) d_M_make_80 (by decide) ?_
              refine z_lv [0, 1, 2, 3, 4, 5] rfl ?_
              exact zW_cast (by rw [setU_s _ _ _ _ _ (mk_yes (show i < mV v x from Nat.lt_of_not_le (fun q => c45 (by rw [nI_clamp (show x < 2 ^ 31 by omega)]; exact nI_le q (by omega)))) (by rw [sbit_t c56]; cases w <;> first | rfl | exact absurd (bI_1.mpr rfl) c66))]) (ih (i + 1) (by omega))
            · refine z_iconst (pc := 69) K (v := 1) d_M_make_69 (by decide) ?_
              refine z_goto (pc := 70) K (tgt := 74) d_M_make_70 (by decide) ?_
              refine z_eqi (y := bI true) rfl ?_
              refine z_cVv (pc := 74) K 0 (m_tell_c _ t (i + 1) _ ht (by omega)) (cwA K 3 k548 k550 ks14 k7 k551 q_M_tell ⟨Nat.le_of_ble_eq_true rfl, Nat.le_of_ble_eq_true rfl⟩) d_M_make_74 rfl rfl rfl rfl rfl (Nat.le_of_ble_eq_true rfl) ⟨Nat.le_of_ble_eq_true rfl, Nat.le_of_ble_eq_true rfl⟩ ?_
              refine z_iinc (pc := 77) K (v := nI (i + 1)) d_M_make_77 0 rfl (inc1 i) (by decide) rfl ?_
              refine z_goto (pc := 80) K (tgt := 26) d_M_make_80 (by decide) ?_
              refine z_lv [0, 1, 2, 3, 4, 5] rfl ?_
              exact zW_cast (by rw [setU_s _ _ _ _ _ (mk_yes (show i < mV v x from Nat.lt_of_not_le (fun q => c45 (by rw [nI_clamp (show x < 2 ^ 31 by omega)]; exact nI_le q (by omega)))) (by rw [sbit_t c56, bI_1.mp c66]; rfl))]) (ih (i + 1) (by omega))
  refine z_aload_n (pc := 0) K d_M_make_0 rfl ?_
  refine z_get (pc := 1) K (ref := "DemandTermsModel") d_M_make_1 hi_M 0 rfl rfl 6 (by decide) k478 rfl rfl ?_
  refine z_iload_n (pc := 4) K d_M_make_4 rfl ?_
  refine z_iload_n (pc := 5) K d_M_make_5 rfl ?_
  refine z_iast (pc := 6) K (ws' := (MW a cI cJ cZ (sL v (updN (mL v).1 t x, (mL v).2)))) d_M_make_6 2 0 rfl rfl (vp_in_nI ht (by decide)) (by rw [nI_clamp (show t < 2 ^ 31 by omega), w_nI]; rfl) ?_
  refine z_aload_n (pc := 7) K d_M_make_7 rfl ?_
  refine z_iload_n (pc := 8) K d_M_make_8 rfl ?_
  refine z_iconst (pc := 9) K (v := (-1)) d_M_make_9 (by decide) ?_
  refine z_eqi (y := vI 0) vI_0.symm ?_
  refine z_iload (pc := 10) K d_M_make_10 rfl ?_
  refine z_ifb_ne (pc := 12) K (tgt := 19) d_M_make_12 (by decide) (fun c12 => ?_) (fun c12 => ?_)
  · refine z_iconst (pc := 19) K (v := 0) d_M_make_19 (by decide) ?_
    refine z_eqi (y := bI false) rfl ?_
    refine z_cVv (pc := 20) K 0 (m_tell_c _ t 0 _ ht (by decide)) (cwA K 3 k548 k550 ks14 k7 k551 q_M_tell ⟨Nat.le_of_ble_eq_true rfl, Nat.le_of_ble_eq_true rfl⟩) d_M_make_20 rfl rfl rfl rfl rfl (Nat.le_of_ble_eq_true rfl) ⟨Nat.le_of_ble_eq_true rfl, Nat.le_of_ble_eq_true rfl⟩ ?_
    refine z_iconst (pc := 23) K (v := 0) d_M_make_23 (by decide) ?_
    refine z_istore (pc := 24) K d_M_make_24 (by decide) rfl ?_
    refine z_lv [0, 1, 2, 3, 4, 5] rfl ?_
    exact zW_cast (show _ = MW a cI cJ cZ (sL v (updN (mL v).1 t x, setU (mL v).2 t (m_mk (mV v) x set w) (0 + 1))) by rw [← setU_s (mL v).2 t (m_mk (mV v) x set w) 0 false (mk_0 (by rw [c12]; rfl)), setU_0]) (LP 48 0 rfl)
  · refine z_iconst (pc := 15) K (v := 1) d_M_make_15 (by decide) ?_
    refine z_goto (pc := 16) K (tgt := 20) d_M_make_16 (by decide) ?_
    refine z_eqi (y := bI true) rfl ?_
    refine z_cVv (pc := 20) K 0 (m_tell_c _ t 0 _ ht (by decide)) (cwA K 3 k548 k550 ks14 k7 k551 q_M_tell ⟨Nat.le_of_ble_eq_true rfl, Nat.le_of_ble_eq_true rfl⟩) d_M_make_20 rfl rfl rfl rfl rfl (Nat.le_of_ble_eq_true rfl) ⟨Nat.le_of_ble_eq_true rfl, Nat.le_of_ble_eq_true rfl⟩ ?_
    refine z_iconst (pc := 23) K (v := 0) d_M_make_23 (by decide) ?_
    refine z_istore (pc := 24) K d_M_make_24 (by decide) rfl ?_
    refine z_lv [0, 1, 2, 3, 4, 5] rfl ?_
    exact zW_cast (show _ = MW a cI cJ cZ (sL v (updN (mL v).1 t x, setU (mL v).2 t (m_mk (mV v) x set w) (0 + 1))) by rw [← setU_s (mL v).2 t (m_mk (mV v) x set w) 0 true (mk_0 (by rw [c12]; rfl)), setU_0]) (LP 48 0 rfl)
set_option maxRecDepth 100000 in
set_option maxHeartbeats 4000000 in
theorem m_copy_c (v : MS) (t : Nat) (y : Nat) (ht : t < 5420) (hy : y < 5420) : MV l D vwCl (CT cI cJ cC cZ) (MW a cI cJ cZ) y_M_copy (wA y_M_copy prog_8_method_11_code 4 none) { frames := 1, cells := 0, slots := 0, locals := 23 } [.ref (a 0), .int (nI t), .int (nI y)] v (sL v (m_copy (mL v) t y)) := by
  refine MV.of (cc := prog_8_method_11_code) (nL := 4) (by decide) rfl (Nat.le_of_ble_eq_true rfl) ?_
  intro p e s m below meth c A Q K ret
  refine z_lvE (lv' := [(0, .ref (a 0)), (1, .int (nI t)), (2, .int (nI y))]) rfl ?_
  refine z_aload_n (pc := 0) K d_M_copy_0 rfl ?_
  refine z_get (pc := 1) K (ref := "DemandTermsModel") d_M_copy_1 hi_M 0 rfl rfl 6 (by decide) k478 rfl rfl ?_
  refine z_iload_n (pc := 4) K d_M_copy_4 rfl ?_
  refine z_aload_n (pc := 5) K d_M_copy_5 rfl ?_
  refine z_get (pc := 6) K (ref := "DemandTermsModel") d_M_copy_6 hi_M 0 rfl rfl 6 (by decide) k478 rfl rfl ?_
  refine z_iload_n (pc := 9) K d_M_copy_9 rfl ?_
  refine z_iald (pc := 10) K d_M_copy_10 2 0 rfl rfl (vp_in_nI hy (by decide)) ?_
  refine z_iast (pc := 11) K (ws' := (MW a cI cJ cZ (sL v (updN (mL v).1 t ((mL v).1 y), (mL v).2)))) d_M_copy_11 2 0 rfl rfl (vp_in_nI ht (by decide)) (by rw [nI_clamp (show t < 2 ^ 31 by omega), nI_clamp (show y < 2 ^ 31 by omega), w_nI]; rfl) ?_
  refine z_iconst (pc := 12) K (v := (-1)) d_M_copy_12 (by decide) ?_
  refine z_istore_n (pc := 13) K d_M_copy_13 rfl (by decide) rfl ?_
  have LP : ∀ (n b : Nat), b + n = 49 → zW p l e { frames := 1, cells := 0, slots := 0, locals := 23 } s m [.ref (a 0), .int (nI t), .int (nI y)].toArray below meth c D vwCl A 4 0 0 Q (MW a cI cJ cZ (sL v (updN (mL v).1 t ((mL v).1 y), setU (mL v).2 t ((mL v).2 y) b))) 14 [(3, .int (vI b)), (0, .ref (a 0)), (1, .int (nI t)), (2, .int (nI y))] [] := by
    intro n
    induction n with
    | zero =>
      intro b hi
      have hb : b = 49 := by omega
      subst hb
      refine z_iload_n (pc := 14) K d_M_copy_14 rfl ?_
      refine z_bipush (pc := 15) K (v := 48) d_M_copy_15 (by decide) ?_
      refine z_icmp_ge (pc := 17) K (tgt := 38) d_M_copy_17 (by decide) (fun c17 => ?_) (fun c17 => ?_)
      · exact z_retv (pc := 38) ret d_M_copy_38 rfl
      · exact absurd ((vI_le (k := 48) (by decide) (by omega)).mpr (by omega)) c17
    | succ n ih =>
      intro b hi
      refine z_iload_n (pc := 14) K d_M_copy_14 rfl ?_
      refine z_bipush (pc := 15) K (v := 48) d_M_copy_15 (by decide) ?_
      refine z_icmp_ge (pc := 17) K (tgt := 38) d_M_copy_17 (by decide) (fun c17 => ?_) (fun c17 => ?_)
      · exact absurd ((vI_le (k := 48) (by decide) (by omega)).mp c17) (by omega)
      · refine z_aload_n (pc := 20) K d_M_copy_20 rfl ?_
        refine z_iload_n (pc := 21) K d_M_copy_21 rfl ?_
        refine z_iload_n (pc := 22) K d_M_copy_22 rfl ?_
        refine z_aload_n (pc := 23) K d_M_copy_23 rfl ?_
        refine z_iload_n (pc := 24) K d_M_copy_24 rfl ?_
        refine z_iload_n (pc := 25) K d_M_copy_25 rfl ?_
        refine z_cVi (pc := 26) K 0 (m_isSaid_c _ y b hy (by omega)) (cwA K 2 k576 k578 ks19 k7 k579 q_M_isSaid ⟨Nat.le_of_ble_eq_true rfl, Nat.le_of_ble_eq_true rfl⟩) d_M_copy_26 rfl rfl rfl rfl rfl (Nat.le_of_ble_eq_true rfl) ⟨Nat.le_of_ble_eq_true rfl, Nat.le_of_ble_eq_true rfl⟩ ?_
        refine z_cVv (pc := 29) K 0 (m_tell_c _ t b _ ht (by omega)) (cwA K 3 k548 k550 ks14 k7 k551 q_M_tell ⟨Nat.le_of_ble_eq_true rfl, Nat.le_of_ble_eq_true rfl⟩) d_M_copy_29 rfl rfl rfl rfl rfl (Nat.le_of_ble_eq_true rfl) ⟨Nat.le_of_ble_eq_true rfl, Nat.le_of_ble_eq_true rfl⟩ ?_
        refine z_iinc (pc := 32) K (v := vI (b + 1)) d_M_copy_32 0 rfl (vI_inc b) (by decide) rfl ?_
        refine z_goto (pc := 35) K (tgt := 14) d_M_copy_35 (by decide) ?_
        refine z_lv [0, 1, 2, 3] rfl ?_
        exact zW_cast (by rw [setU_s _ _ _ _ _ (setU_at _ _ _ _ _)]) (ih (b + 1) (by omega))
  refine z_lv [0, 1, 2, 3] rfl ?_
  exact zW_cast (show _ = MW a cI cJ cZ (sL v (updN (mL v).1 t ((mL v).1 y), setU (mL v).2 t ((mL v).2 y) 0)) by rw [setU_0]) (LP 49 0 rfl)
set_option maxRecDepth 100000 in
set_option maxHeartbeats 4000000 in
theorem m_join_c (v : MS) (t : Nat) (x : Nat) (y : Nat) (w : Bool) (ht : t < 5420) (hx : x < 5420) (hy : y < 5420) : MV l D vwCl (CT cI cJ cC cZ) (MW a cI cJ cZ) y_M_join (wA y_M_join prog_8_method_12_code 6 none) { frames := 1, cells := 0, slots := 0, locals := 23 } [.ref (a 0), .int (nI t), .int (nI x), .int (nI y), .int (bI w)] v (sL v (m_join (mL v) t x y w)) := by
  refine MV.of (cc := prog_8_method_12_code) (nL := 6) (by decide) rfl (Nat.le_of_ble_eq_true rfl) ?_
  intro p e s m below meth c A Q K ret
  refine z_lvE (lv' := [(0, .ref (a 0)), (1, .int (nI t)), (2, .int (nI x)), (3, .int (nI y)), (4, .int (bI w))]) rfl ?_
  refine z_aload_n (pc := 0) K d_M_join_0 rfl ?_
  refine z_get (pc := 1) K (ref := "DemandTermsModel") d_M_join_1 hi_M 0 rfl rfl 6 (by decide) k478 rfl rfl ?_
  refine z_iload_n (pc := 4) K d_M_join_4 rfl ?_
  refine z_aload_n (pc := 5) K d_M_join_5 rfl ?_
  refine z_get (pc := 6) K (ref := "DemandTermsModel") d_M_join_6 hi_M 0 rfl rfl 6 (by decide) k478 rfl rfl ?_
  refine z_iload_n (pc := 9) K d_M_join_9 rfl ?_
  refine z_iald (pc := 10) K d_M_join_10 2 0 rfl rfl (vp_in_nI hx (by decide)) ?_
  refine z_iast (pc := 11) K (ws' := (MW a cI cJ cZ (sL v (updN (mL v).1 t ((mL v).1 x), (mL v).2)))) d_M_join_11 2 0 rfl rfl (vp_in_nI ht (by decide)) (by rw [nI_clamp (show t < 2 ^ 31 by omega), nI_clamp (show x < 2 ^ 31 by omega), w_nI]; rfl) ?_
  refine z_iconst (pc := 12) K (v := (-1)) d_M_join_12 (by decide) ?_
  refine z_istore (pc := 13) K d_M_join_13 (by decide) rfl ?_
  have LP : ∀ (n b : Nat), b + n = 49 → zW p l e { frames := 1, cells := 0, slots := 0, locals := 23 } s m [.ref (a 0), .int (nI t), .int (nI x), .int (nI y), .int (bI w)].toArray below meth c D vwCl A 6 0 0 Q (MW a cI cJ cZ (sL v (updN (mL v).1 t ((mL v).1 x), setU (mL v).2 t (m_jn (mL v) x y w) b))) 15 [(5, .int (vI b)), (0, .ref (a 0)), (1, .int (nI t)), (2, .int (nI x)), (3, .int (nI y)), (4, .int (bI w))] [] := by
    intro n
    induction n with
    | zero =>
      intro b hi
      have hb : b = 49 := by omega
      subst hb
      refine z_iload (pc := 15) K d_M_join_15 rfl ?_
      refine z_bipush (pc := 17) K (v := 48) d_M_join_17 (by decide) ?_
      refine z_icmp_ge (pc := 19) K (tgt := 93) d_M_join_19 (by decide) (fun c19 => ?_) (fun c19 => ?_)
      · exact z_retv (pc := 93) ret d_M_join_93 rfl
      · exact absurd ((vI_le (k := 48) (by decide) (by omega)).mpr (by omega)) c19
    | succ n ih =>
      intro b hi
      refine z_iload (pc := 15) K d_M_join_15 rfl ?_
      refine z_bipush (pc := 17) K (v := 48) d_M_join_17 (by decide) ?_
      refine z_icmp_ge (pc := 19) K (tgt := 93) d_M_join_19 (by decide) (fun c19 => ?_) (fun c19 => ?_)
      · exact absurd ((vI_le (k := 48) (by decide) (by omega)).mp c19) (by omega)
      · refine z_aload_n (pc := 22) K d_M_join_22 rfl ?_
        refine z_iload_n (pc := 23) K d_M_join_23 rfl ?_
        refine z_iload (pc := 24) K d_M_join_24 rfl ?_
        refine z_iload (pc := 26) K d_M_join_26 rfl ?_
        refine z_ifb_eq (pc := 28) K (tgt := 59) d_M_join_28 (by decide) (fun c28 => ?_) (fun c28 => ?_)
        · refine z_aload_n (pc := 59) K d_M_join_59 rfl ?_
          refine z_iload_n (pc := 60) K d_M_join_60 rfl ?_
          refine z_iload (pc := 61) K d_M_join_61 rfl ?_
          refine z_cVi (pc := 63) K 0 (m_isSaid_c _ x b hx (by omega)) (cwA K 2 k576 k578 ks19 k7 k579 q_M_isSaid ⟨Nat.le_of_ble_eq_true rfl, Nat.le_of_ble_eq_true rfl⟩) d_M_join_63 rfl rfl rfl rfl rfl (Nat.le_of_ble_eq_true rfl) ⟨Nat.le_of_ble_eq_true rfl, Nat.le_of_ble_eq_true rfl⟩ ?_
          refine z_ifb_eq (pc := 66) K (tgt := 83) d_M_join_66 (by decide) (fun c66 => ?_) (fun c66 => ?_)
          · refine z_iconst (pc := 83) K (v := 0) d_M_join_83 (by decide) ?_
            refine z_eqi (y := bI false) rfl ?_
            refine z_cVv (pc := 84) K 0 (m_tell_c _ t b _ ht (by omega)) (cwA K 3 k548 k550 ks14 k7 k551 q_M_tell ⟨Nat.le_of_ble_eq_true rfl, Nat.le_of_ble_eq_true rfl⟩) d_M_join_84 rfl rfl rfl rfl rfl (Nat.le_of_ble_eq_true rfl) ⟨Nat.le_of_ble_eq_true rfl, Nat.le_of_ble_eq_true rfl⟩ ?_
            refine z_iinc (pc := 87) K (v := vI (b + 1)) d_M_join_87 0 rfl (vI_inc b) (by decide) rfl ?_
            refine z_goto (pc := 90) K (tgt := 15) d_M_join_90 (by decide) ?_
            refine z_lv [0, 1, 2, 3, 4, 5] rfl ?_
            exact zW_cast (by rw [setU_s _ _ _ _ _ (by have c66 := (setU_at (mL v).2 t (m_jn (mL v) x y w) b x).symm.trans c66; simp [m_jn, c28, c66])]) (ih (b + 1) (by omega))
          · refine z_aload_n (pc := 69) K d_M_join_69 rfl ?_
            refine z_iload_n (pc := 70) K d_M_join_70 rfl ?_
            refine z_iload (pc := 71) K d_M_join_71 rfl ?_
            refine z_cVi (pc := 73) K 0 (m_isSaid_c _ y b hy (by omega)) (cwA K 2 k576 k578 ks19 k7 k579 q_M_isSaid ⟨Nat.le_of_ble_eq_true rfl, Nat.le_of_ble_eq_true rfl⟩) d_M_join_73 rfl rfl rfl rfl rfl (Nat.le_of_ble_eq_true rfl) ⟨Nat.le_of_ble_eq_true rfl, Nat.le_of_ble_eq_true rfl⟩ ?_
            refine z_ifb_eq (pc := 76) K (tgt := 83) d_M_join_76 (by decide) (fun c76 => ?_) (fun c76 => ?_)
            · refine z_iconst (pc := 83) K (v := 0) d_M_join_83 (by decide) ?_
              refine z_eqi (y := bI false) rfl ?_
              refine z_cVv (pc := 84) K 0 (m_tell_c _ t b _ ht (by omega)) (cwA K 3 k548 k550 ks14 k7 k551 q_M_tell ⟨Nat.le_of_ble_eq_true rfl, Nat.le_of_ble_eq_true rfl⟩) d_M_join_84 rfl rfl rfl rfl rfl (Nat.le_of_ble_eq_true rfl) ⟨Nat.le_of_ble_eq_true rfl, Nat.le_of_ble_eq_true rfl⟩ ?_
              refine z_iinc (pc := 87) K (v := vI (b + 1)) d_M_join_87 0 rfl (vI_inc b) (by decide) rfl ?_
              refine z_goto (pc := 90) K (tgt := 15) d_M_join_90 (by decide) ?_
              refine z_lv [0, 1, 2, 3, 4, 5] rfl ?_
              exact zW_cast (by rw [setU_s _ _ _ _ _ (by have c66 := (setU_at (mL v).2 t (m_jn (mL v) x y w) b x).symm.trans c66; have c76 := (setU_at (mL v).2 t (m_jn (mL v) x y w) b y).symm.trans c76; simp [m_jn, c28, c66, c76])]) (ih (b + 1) (by omega))
            · refine z_iconst (pc := 79) K (v := 1) d_M_join_79 (by decide) ?_
              refine z_goto (pc := 80) K (tgt := 84) d_M_join_80 (by decide) ?_
              refine z_eqi (y := bI true) rfl ?_
              refine z_cVv (pc := 84) K 0 (m_tell_c _ t b _ ht (by omega)) (cwA K 3 k548 k550 ks14 k7 k551 q_M_tell ⟨Nat.le_of_ble_eq_true rfl, Nat.le_of_ble_eq_true rfl⟩) d_M_join_84 rfl rfl rfl rfl rfl (Nat.le_of_ble_eq_true rfl) ⟨Nat.le_of_ble_eq_true rfl, Nat.le_of_ble_eq_true rfl⟩ ?_
              refine z_iinc (pc := 87) K (v := vI (b + 1)) d_M_join_87 0 rfl (vI_inc b) (by decide) rfl ?_
              refine z_goto (pc := 90) K (tgt := 15) d_M_join_90 (by decide) ?_
              refine z_lv [0, 1, 2, 3, 4, 5] rfl ?_
              exact zW_cast (by rw [setU_s _ _ _ _ _ (by have c66 := (setU_at (mL v).2 t (m_jn (mL v) x y w) b x).symm.trans c66; have c76 := (setU_at (mL v).2 t (m_jn (mL v) x y w) b y).symm.trans c76; simp [m_jn, c28, c66, c76])]) (ih (b + 1) (by omega))
        · refine z_aload_n (pc := 31) K d_M_join_31 rfl ?_
          refine z_iload_n (pc := 32) K d_M_join_32 rfl ?_
          refine z_iload (pc := 33) K d_M_join_33 rfl ?_
          refine z_cVi (pc := 35) K 0 (m_isSaid_c _ x b hx (by omega)) (cwA K 2 k576 k578 ks19 k7 k579 q_M_isSaid ⟨Nat.le_of_ble_eq_true rfl, Nat.le_of_ble_eq_true rfl⟩) d_M_join_35 rfl rfl rfl rfl rfl (Nat.le_of_ble_eq_true rfl) ⟨Nat.le_of_ble_eq_true rfl, Nat.le_of_ble_eq_true rfl⟩ ?_
          refine z_ifb_ne (pc := 38) K (tgt := 51) d_M_join_38 (by decide) (fun c38 => ?_) (fun c38 => ?_)
          · refine z_iconst (pc := 51) K (v := 1) d_M_join_51 (by decide) ?_
            refine z_goto (pc := 52) K (tgt := 84) d_M_join_52 (by decide) ?_
            refine z_eqi (y := bI true) rfl ?_
            refine z_cVv (pc := 84) K 0 (m_tell_c _ t b _ ht (by omega)) (cwA K 3 k548 k550 ks14 k7 k551 q_M_tell ⟨Nat.le_of_ble_eq_true rfl, Nat.le_of_ble_eq_true rfl⟩) d_M_join_84 rfl rfl rfl rfl rfl (Nat.le_of_ble_eq_true rfl) ⟨Nat.le_of_ble_eq_true rfl, Nat.le_of_ble_eq_true rfl⟩ ?_
            refine z_iinc (pc := 87) K (v := vI (b + 1)) d_M_join_87 0 rfl (vI_inc b) (by decide) rfl ?_
            refine z_goto (pc := 90) K (tgt := 15) d_M_join_90 (by decide) ?_
            refine z_lv [0, 1, 2, 3, 4, 5] rfl ?_
            exact zW_cast (by rw [setU_s _ _ _ _ _ (by have c38 := (setU_at (mL v).2 t (m_jn (mL v) x y w) b x).symm.trans c38; simp [m_jn, c28, c38])]) (ih (b + 1) (by omega))
          · refine z_aload_n (pc := 41) K d_M_join_41 rfl ?_
            refine z_iload_n (pc := 42) K d_M_join_42 rfl ?_
            refine z_iload (pc := 43) K d_M_join_43 rfl ?_
            refine z_cVi (pc := 45) K 0 (m_isSaid_c _ y b hy (by omega)) (cwA K 2 k576 k578 ks19 k7 k579 q_M_isSaid ⟨Nat.le_of_ble_eq_true rfl, Nat.le_of_ble_eq_true rfl⟩) d_M_join_45 rfl rfl rfl rfl rfl (Nat.le_of_ble_eq_true rfl) ⟨Nat.le_of_ble_eq_true rfl, Nat.le_of_ble_eq_true rfl⟩ ?_
            refine z_ifb_eq (pc := 48) K (tgt := 55) d_M_join_48 (by decide) (fun c48 => ?_) (fun c48 => ?_)
            · refine z_iconst (pc := 55) K (v := 0) d_M_join_55 (by decide) ?_
              refine z_goto (pc := 56) K (tgt := 84) d_M_join_56 (by decide) ?_
              refine z_eqi (y := bI false) rfl ?_
              refine z_cVv (pc := 84) K 0 (m_tell_c _ t b _ ht (by omega)) (cwA K 3 k548 k550 ks14 k7 k551 q_M_tell ⟨Nat.le_of_ble_eq_true rfl, Nat.le_of_ble_eq_true rfl⟩) d_M_join_84 rfl rfl rfl rfl rfl (Nat.le_of_ble_eq_true rfl) ⟨Nat.le_of_ble_eq_true rfl, Nat.le_of_ble_eq_true rfl⟩ ?_
              refine z_iinc (pc := 87) K (v := vI (b + 1)) d_M_join_87 0 rfl (vI_inc b) (by decide) rfl ?_
              refine z_goto (pc := 90) K (tgt := 15) d_M_join_90 (by decide) ?_
              refine z_lv [0, 1, 2, 3, 4, 5] rfl ?_
              exact zW_cast (by rw [setU_s _ _ _ _ _ (by have c38 := (setU_at (mL v).2 t (m_jn (mL v) x y w) b x).symm.trans c38; have c48 := (setU_at (mL v).2 t (m_jn (mL v) x y w) b y).symm.trans c48; simp [m_jn, c28, c38, c48])]) (ih (b + 1) (by omega))
            · refine z_iconst (pc := 51) K (v := 1) d_M_join_51 (by decide) ?_
              refine z_goto (pc := 52) K (tgt := 84) d_M_join_52 (by decide) ?_
              refine z_eqi (y := bI true) rfl ?_
              refine z_cVv (pc := 84) K 0 (m_tell_c _ t b _ ht (by omega)) (cwA K 3 k548 k550 ks14 k7 k551 q_M_tell ⟨Nat.le_of_ble_eq_true rfl, Nat.le_of_ble_eq_true rfl⟩) d_M_join_84 rfl rfl rfl rfl rfl (Nat.le_of_ble_eq_true rfl) ⟨Nat.le_of_ble_eq_true rfl, Nat.le_of_ble_eq_true rfl⟩ ?_
              refine z_iinc (pc := 87) K (v := vI (b + 1)) d_M_join_87 0 rfl (vI_inc b) (by decide) rfl ?_
              refine z_goto (pc := 90) K (tgt := 15) d_M_join_90 (by decide) ?_
              refine z_lv [0, 1, 2, 3, 4, 5] rfl ?_
              exact zW_cast (by rw [setU_s _ _ _ _ _ (by have c38 := (setU_at (mL v).2 t (m_jn (mL v) x y w) b x).symm.trans c38; have c48 := (setU_at (mL v).2 t (m_jn (mL v) x y w) b y).symm.trans c48; simp [m_jn, c28, c38, c48])]) (ih (b + 1) (by omega))
  refine z_lv [0, 1, 2, 3, 4, 5] rfl ?_
  exact zW_cast (show _ = MW a cI cJ cZ (sL v (updN (mL v).1 t ((mL v).1 x), setU (mL v).2 t (m_jn (mL v) x y w) 0)) by rw [setU_0]) (LP 49 0 rfl)
set_option maxRecDepth 100000 in
set_option maxHeartbeats 4000000 in
theorem m_isFull_c (v : MS) (t : Nat) (ht : t < 5420) (hn : (mL v).1 t < 16) (hv : mV v ((mL v).1 t) ≤ 48) : MI l D vwCl (CT cI cJ cC cZ) (MW a cI cJ cZ) y_M_isFull (wA y_M_isFull prog_8_method_13_code 4 (some .boolean)) { frames := 1, cells := 0, slots := 0, locals := 22 } [.ref (a 0), .int (nI t)] v (bI (m_isFull (mV v) (mL v) t)) (v) := by
  refine MI.ofZ (cc := prog_8_method_13_code) (nL := 4) (by decide) rfl (Nat.le_of_ble_eq_true rfl) ?_
  intro p e s m below meth c A Q K ret
  refine z_lvE (lv' := [(0, .ref (a 0)), (1, .int (nI t))]) rfl ?_
  refine z_aload_n (pc := 0) K d_M_isFull_0 rfl ?_
  refine z_iload_n (pc := 1) K d_M_isFull_1 rfl ?_
  refine z_iconst (pc := 2) K (v := (-1)) d_M_isFull_2 (by decide) ?_
  refine z_eqi (y := vI 0) vI_0.symm ?_
  refine z_cVi (pc := 3) K 0 (m_isSaid_c _ t 0 ht (by decide)) (cwA K 2 k576 k578 ks19 k7 k579 q_M_isSaid ⟨Nat.le_of_ble_eq_true rfl, Nat.le_of_ble_eq_true rfl⟩) d_M_isFull_3 rfl rfl rfl rfl rfl (Nat.le_of_ble_eq_true rfl) ⟨Nat.le_of_ble_eq_true rfl, Nat.le_of_ble_eq_true rfl⟩ ?_
  refine z_istore_n (pc := 6) K d_M_isFull_6 rfl (by decide) rfl ?_
  refine z_iconst (pc := 7) K (v := 0) d_M_isFull_7 (by decide) ?_
  refine z_istore_n (pc := 8) K d_M_isFull_8 rfl (by decide) rfl ?_
  have LP : ∀ (n i : Nat) (f : Bool), i + n = mV v ((mL v).1 t) → f = allB ((mL v).2 t) (i + 1) → zW p l e { frames := 1, cells := 0, slots := 0, locals := 22 } s m [.ref (a 0), .int (nI t)].toArray below meth c D vwCl A 4 0 0 Q (MW a cI cJ cZ v) 9 [(3, .int (nI i)), (2, .int (bI f)), (0, .ref (a 0)), (1, .int (nI t))] [] := by
    intro n
    induction n with
    | zero =>
      intro i f hi hf
      refine z_iload_n (pc := 9) K d_M_isFull_9 rfl ?_
      refine z_aload_n (pc := 10) K d_M_isFull_10 rfl ?_
      refine z_get (pc := 11) K (ref := "DemandTermsModel") d_M_isFull_11 hi_M 0 rfl rfl 1 (by decide) k473 rfl rfl ?_
      refine z_aload_n (pc := 14) K d_M_isFull_14 rfl ?_
      refine z_get (pc := 15) K (ref := "DemandTermsModel") d_M_isFull_15 hi_M 0 rfl rfl 6 (by decide) k478 rfl rfl ?_
      refine z_iload_n (pc := 18) K d_M_isFull_18 rfl ?_
      refine z_iald (pc := 19) K d_M_isFull_19 2 0 rfl rfl (vp_in_nI ht (by decide)) ?_
      refine z_iald (pc := 20) K d_M_isFull_20 1 0 rfl rfl (in_vn ht hn) ?_
      refine z_eqi (e_vn ht hn) ?_
      refine z_icmp_ge (pc := 21) K (tgt := 49) d_M_isFull_21 (by decide) (fun c21 => ?_) (fun c21 => ?_)
      · refine z_iload_n (pc := 49) K d_M_isFull_49 rfl ?_
        exact z_reti (pc := 50) ret d_M_isFull_50 (by rw [hf, m_isFull, show i = mV v ((mL v).1 t) by omega]) rfl
      · exact absurd (nI_le (a := (mV v ((mL v).1 t))) (b := i) (by omega) (by omega)) c21
    | succ n ih =>
      intro i f hi hf
      refine z_iload_n (pc := 9) K d_M_isFull_9 rfl ?_
      refine z_aload_n (pc := 10) K d_M_isFull_10 rfl ?_
      refine z_get (pc := 11) K (ref := "DemandTermsModel") d_M_isFull_11 hi_M 0 rfl rfl 1 (by decide) k473 rfl rfl ?_
      refine z_aload_n (pc := 14) K d_M_isFull_14 rfl ?_
      refine z_get (pc := 15) K (ref := "DemandTermsModel") d_M_isFull_15 hi_M 0 rfl rfl 6 (by decide) k478 rfl rfl ?_
      refine z_iload_n (pc := 18) K d_M_isFull_18 rfl ?_
      refine z_iald (pc := 19) K d_M_isFull_19 2 0 rfl rfl (vp_in_nI ht (by decide)) ?_
      refine z_iald (pc := 20) K d_M_isFull_20 1 0 rfl rfl (in_vn ht hn) ?_
      refine z_eqi (e_vn ht hn) ?_
      refine z_icmp_ge (pc := 21) K (tgt := 49) d_M_isFull_21 (by decide) (fun c21 => ?_) (fun c21 => ?_)
      · exact absurd c21 (nI_ge (a := i) (b := (mV v ((mL v).1 t))) (by omega) (by omega))
      · refine z_iload_n (pc := 24) K d_M_isFull_24 rfl ?_
        refine z_ifb_eq (pc := 25) K (tgt := 41) d_M_isFull_25 (by decide) (fun c25 => ?_) (fun c25 => ?_)
        · refine z_iconst (pc := 41) K (v := 0) d_M_isFull_41 (by decide) ?_
          refine z_eqi (y := bI false) rfl ?_
          refine z_istore_n (pc := 42) K d_M_isFull_42 rfl (by decide) rfl ?_
          refine z_iinc (pc := 43) K (v := nI (i + 1)) d_M_isFull_43 1 rfl (inc1 i) (by decide) rfl ?_
          refine z_goto (pc := 46) K (tgt := 9) d_M_isFull_46 (by decide) ?_
          refine z_lv [0, 1, 2, 3] rfl ?_
          exact ih (i + 1) _ (by omega) (by rw [allB, ← hf]; simp [c25])
        · refine z_aload_n (pc := 28) K d_M_isFull_28 rfl ?_
          refine z_iload_n (pc := 29) K d_M_isFull_29 rfl ?_
          refine z_iload_n (pc := 30) K d_M_isFull_30 rfl ?_
          refine z_eqi (y := vI (i + 1)) (vI_s i).symm ?_
          refine z_cVi (pc := 31) K 0 (m_isSaid_c _ t (i + 1) ht (by omega)) (cwA K 2 k576 k578 ks19 k7 k579 q_M_isSaid ⟨Nat.le_of_ble_eq_true rfl, Nat.le_of_ble_eq_true rfl⟩) d_M_isFull_31 rfl rfl rfl rfl rfl (Nat.le_of_ble_eq_true rfl) ⟨Nat.le_of_ble_eq_true rfl, Nat.le_of_ble_eq_true rfl⟩ ?_
          refine z_ifb_eq (pc := 34) K (tgt := 41) d_M_isFull_34 (by decide) (fun c34 => ?_) (fun c34 => ?_)
          · refine z_iconst (pc := 41) K (v := 0) d_M_isFull_41 (by decide) ?_
            refine z_eqi (y := bI false) rfl ?_
            refine z_istore_n (pc := 42) K d_M_isFull_42 rfl (by decide) rfl ?_
            refine z_iinc (pc := 43) K (v := nI (i + 1)) d_M_isFull_43 1 rfl (inc1 i) (by decide) rfl ?_
            refine z_goto (pc := 46) K (tgt := 9) d_M_isFull_46 (by decide) ?_
            refine z_lv [0, 1, 2, 3] rfl ?_
            exact ih (i + 1) _ (by omega) (by rw [allB, ← hf]; simp [c25, c34])
          · refine z_iconst (pc := 37) K (v := 1) d_M_isFull_37 (by decide) ?_
            refine z_goto (pc := 38) K (tgt := 42) d_M_isFull_38 (by decide) ?_
            refine z_eqi (y := bI true) rfl ?_
            refine z_istore_n (pc := 42) K d_M_isFull_42 rfl (by decide) rfl ?_
            refine z_iinc (pc := 43) K (v := nI (i + 1)) d_M_isFull_43 1 rfl (inc1 i) (by decide) rfl ?_
            refine z_goto (pc := 46) K (tgt := 9) d_M_isFull_46 (by decide) ?_
            refine z_lv [0, 1, 2, 3] rfl ?_
            exact ih (i + 1) _ (by omega) (by rw [allB, ← hf]; simp [c25, c34])
  refine z_lv [0, 1, 2, 3] rfl ?_
  exact LP _ 0 _ (Nat.zero_add _) (by simp [allB])
set_option maxRecDepth 100000 in
set_option maxHeartbeats 4000000 in
theorem m_isWanted_c (v : MS) (t : Nat) (ht : t < 5420) : MI l D vwCl (CT cI cJ cC cZ) (MW a cI cJ cZ) y_M_isWanted (wA y_M_isWanted prog_8_method_14_code 2 (some .boolean)) { frames := 1, cells := 0, slots := 0, locals := 22 } [.ref (a 0), .int (nI t)] v (bI (m_isW (mL v) t)) (v) := by
  refine MI.ofZ (cc := prog_8_method_14_code) (nL := 2) (by decide) rfl (Nat.le_of_ble_eq_true rfl) ?_
  intro p e s m below meth c A Q K ret
  refine z_lvE (lv' := [(0, .ref (a 0)), (1, .int (nI t))]) rfl ?_
  refine z_aload_n (pc := 0) K d_M_isWanted_0 rfl ?_
  refine z_iload_n (pc := 1) K d_M_isWanted_1 rfl ?_
  refine z_iconst (pc := 2) K (v := (-1)) d_M_isWanted_2 (by decide) ?_
  refine z_eqi (y := vI 0) vI_0.symm ?_
  refine z_cVi (pc := 3) K 0 (m_isSaid_c _ t 0 ht (by decide)) (cwA K 2 k576 k578 ks19 k7 k579 q_M_isSaid ⟨Nat.le_of_ble_eq_true rfl, Nat.le_of_ble_eq_true rfl⟩) d_M_isWanted_3 rfl rfl rfl rfl rfl (Nat.le_of_ble_eq_true rfl) ⟨Nat.le_of_ble_eq_true rfl, Nat.le_of_ble_eq_true rfl⟩ ?_
  refine z_ifb_ne (pc := 6) K (tgt := 13) d_M_isWanted_6 (by decide) (fun c6 => ?_) (fun c6 => ?_)
  · refine z_iconst (pc := 13) K (v := 0) d_M_isWanted_13 (by decide) ?_
    refine z_eqi (y := bI false) rfl ?_
    exact z_reti (pc := 14) ret d_M_isWanted_14 (by simp [m_isW, c6]) rfl
  · refine z_iconst (pc := 9) K (v := 1) d_M_isWanted_9 (by decide) ?_
    refine z_goto (pc := 10) K (tgt := 14) d_M_isWanted_10 (by decide) ?_
    refine z_eqi (y := bI true) rfl ?_
    exact z_reti (pc := 14) ret d_M_isWanted_14 (by simp [m_isW, c6]) rfl
set_option maxRecDepth 100000 in
set_option maxHeartbeats 4000000 in
theorem m_isListed_c (v : MS) (t : Nat) (i : Nat) (ht : t < 5420) (hn : (mL v).1 t < 16) (hv : mV v ((mL v).1 t) ≤ 48) (hi : i < 2 ^ 30) : MI l D vwCl (CT cI cJ cC cZ) (MW a cI cJ cZ) y_M_isListed (wA y_M_isListed prog_8_method_15_code 3 (some .boolean)) { frames := 2, cells := 0, slots := 0, locals := 43 } [.ref (a 0), .int (nI t), .int (nI i)] v (bI (m_isL (mV v) (mL v) t i)) (v) := by
  refine MI.ofZ (cc := prog_8_method_15_code) (nL := 3) (by decide) rfl (Nat.le_of_ble_eq_true rfl) ?_
  intro p e s m below meth c A Q K ret
  refine z_lvE (lv' := [(0, .ref (a 0)), (1, .int (nI t)), (2, .int (nI i))]) rfl ?_
  refine z_iload_n (pc := 0) K d_M_isListed_0 rfl ?_
  refine z_aload_n (pc := 1) K d_M_isListed_1 rfl ?_
  refine z_get (pc := 2) K (ref := "DemandTermsModel") d_M_isListed_2 hi_M 0 rfl rfl 1 (by decide) k473 rfl rfl ?_
  refine z_aload_n (pc := 5) K d_M_isListed_5 rfl ?_
  refine z_get (pc := 6) K (ref := "DemandTermsModel") d_M_isListed_6 hi_M 0 rfl rfl 6 (by decide) k478 rfl rfl ?_
  refine z_iload_n (pc := 9) K d_M_isListed_9 rfl ?_
  refine z_iald (pc := 10) K d_M_isListed_10 2 0 rfl rfl (vp_in_nI ht (by decide)) ?_
  refine z_iald (pc := 11) K d_M_isListed_11 1 0 rfl rfl (in_vn ht hn) ?_
  refine z_eqi (e_vn ht hn) ?_
  refine z_icmp_ge (pc := 12) K (tgt := 33) d_M_isListed_12 (by decide) (fun c12 => ?_) (fun c12 => ?_)
  · refine z_iconst (pc := 33) K (v := 0) d_M_isListed_33 (by decide) ?_
    refine z_eqi (y := bI false) rfl ?_
    exact z_reti (pc := 34) ret d_M_isListed_34 (by rw [m_isL, if_neg (fun q => absurd c12 (nI_ge q (by omega)))]) rfl
  · refine z_aload_n (pc := 15) K d_M_isListed_15 rfl ?_
    refine z_iload_n (pc := 16) K d_M_isListed_16 rfl ?_
    refine z_iload_n (pc := 17) K d_M_isListed_17 rfl ?_
    refine z_eqi (y := vI (i + 1)) (vI_s i).symm ?_
    have hlt : i < mV v ((mL v).1 t) := Nat.lt_of_not_le (fun q => c12 (nI_le q (by omega)))
    refine z_cVi (pc := 18) K 0 (m_isSaid_c _ t (i + 1) ht (by omega)) (cwA K 2 k576 k578 ks19 k7 k579 q_M_isSaid ⟨Nat.le_of_ble_eq_true rfl, Nat.le_of_ble_eq_true rfl⟩) d_M_isListed_18 rfl rfl rfl rfl rfl (Nat.le_of_ble_eq_true rfl) ⟨Nat.le_of_ble_eq_true rfl, Nat.le_of_ble_eq_true rfl⟩ ?_
    refine z_aload_n (pc := 21) K d_M_isListed_21 rfl ?_
    refine z_iload_n (pc := 22) K d_M_isListed_22 rfl ?_
    refine z_cVi (pc := 23) K 0 (m_isWanted_c _ _ ht) (cwA K 1 k600 k602 ks23 k7 k603 q_M_isWanted ⟨Nat.le_of_ble_eq_true rfl, Nat.le_of_ble_eq_true rfl⟩) d_M_isListed_23 rfl rfl rfl rfl rfl (Nat.le_of_ble_eq_true rfl) ⟨Nat.le_of_ble_eq_true rfl, Nat.le_of_ble_eq_true rfl⟩ ?_
    refine z_icmp_ne (pc := 26) K (tgt := 33) d_M_isListed_26 (by decide) (fun c26 => ?_) (fun c26 => ?_)
    · refine z_iconst (pc := 33) K (v := 0) d_M_isListed_33 (by decide) ?_
      refine z_eqi (y := bI false) rfl ?_
      exact z_reti (pc := 34) ret d_M_isListed_34 (by rw [m_isL, if_pos (show i < mV v ((mL v).1 t) from Nat.lt_of_not_le (fun q => c12 (nI_le q (by omega)))), beq_eq_false_iff_ne.mpr (fun q => c26 (bI_eq.mpr q))]) rfl
    · refine z_iconst (pc := 29) K (v := 1) d_M_isListed_29 (by decide) ?_
      refine z_goto (pc := 30) K (tgt := 34) d_M_isListed_30 (by decide) ?_
      refine z_eqi (y := bI true) rfl ?_
      exact z_reti (pc := 34) ret d_M_isListed_34 (by rw [m_isL, if_pos (show i < mV v ((mL v).1 t) from Nat.lt_of_not_le (fun q => c12 (nI_le q (by omega)))), beq_iff_eq.mpr (bI_eq.mp c26)]) rfl
set_option maxRecDepth 100000 in
set_option maxHeartbeats 4000000 in
theorem m_setOf_c (v : MS) (t : Nat) (ht : t < 5420) (hn : (mL v).1 t < 16) (hv : mV v ((mL v).1 t) ≤ 48) : ML l D vwCl (CT cI cJ cC cZ) (MW a cI cJ cZ) y_M_setOf (wA y_M_setOf prog_8_method_16_code 5 (some .long)) { frames := 3, cells := 0, slots := 0, locals := 65 } [.ref (a 0), .int (nI t)] v (m_setOf (mV v) (mL v) t) (v) := by
  refine ML.of (cc := prog_8_method_16_code) (nL := 5) (by decide) rfl (Nat.le_of_ble_eq_true rfl) ?_
  intro p e s m below meth c A Q K ret
  refine z_lvE (lv' := [(0, .ref (a 0)), (1, .int (nI t))]) rfl ?_
  refine z_lconst (pc := 0) K (v := 0) d_M_setOf_0 (by decide) ?_
  refine z_lstore_n (pc := 1) K d_M_setOf_1 rfl (by decide) rfl ?_
  refine z_iconst (pc := 2) K (v := 0) d_M_setOf_2 (by decide) ?_
  refine z_istore (pc := 3) K d_M_setOf_3 (by decide) rfl ?_
  have LP : ∀ (n i : Nat) (f : Int64), i + n = 48 → f = orS (m_isL (mV v) (mL v) t) i → zW p l e { frames := 3, cells := 0, slots := 0, locals := 65 } s m [.ref (a 0), .int (nI t)].toArray below meth c D vwCl A 5 0 0 Q (MW a cI cJ cZ v) 5 [(4, .int (nI i)), (2, .long f), (0, .ref (a 0)), (1, .int (nI t))] [] := by
    intro n
    induction n with
    | zero =>
      intro i f hi hf
      refine z_iload (pc := 5) K d_M_setOf_5 rfl ?_
      refine z_bipush (pc := 7) K (v := 48) d_M_setOf_7 (by decide) ?_
      refine z_icmp_ge (pc := 9) K (tgt := 39) d_M_setOf_9 (by decide) (fun c9 => ?_) (fun c9 => ?_)
      · refine z_lload_n (pc := 39) K d_M_setOf_39 rfl ?_
        exact z_retl (pc := 40) ret d_M_setOf_40 (by rw [hf, m_setOf, show i = 48 by omega]) rfl
      · exact absurd (nI_le (a := 48) (b := i) (by omega) (by omega)) c9
    | succ n ih =>
      intro i f hi hf
      refine z_iload (pc := 5) K d_M_setOf_5 rfl ?_
      refine z_bipush (pc := 7) K (v := 48) d_M_setOf_7 (by decide) ?_
      refine z_icmp_ge (pc := 9) K (tgt := 39) d_M_setOf_9 (by decide) (fun c9 => ?_) (fun c9 => ?_)
      · exact absurd c9 (nI_ge (a := i) (b := 48) (by omega) (by omega))
      · refine z_lload_n (pc := 12) K d_M_setOf_12 rfl ?_
        refine z_aload_n (pc := 13) K d_M_setOf_13 rfl ?_
        refine z_iload_n (pc := 14) K d_M_setOf_14 rfl ?_
        refine z_iload (pc := 15) K d_M_setOf_15 rfl ?_
        refine z_cVi (pc := 17) K 0 (m_isListed_c _ t i ht hn hv (by omega)) (cwA K 2 k596 k598 ks22 k7 k599 q_M_isListed ⟨Nat.le_of_ble_eq_true rfl, Nat.le_of_ble_eq_true rfl⟩) d_M_setOf_17 rfl rfl rfl rfl rfl (Nat.le_of_ble_eq_true rfl) ⟨Nat.le_of_ble_eq_true rfl, Nat.le_of_ble_eq_true rfl⟩ ?_
        refine z_ifb_eq (pc := 20) K (tgt := 30) d_M_setOf_20 (by decide) (fun c20 => ?_) (fun c20 => ?_)
        · refine z_lconst (pc := 30) K (v := 0) d_M_setOf_30 (by decide) ?_
          refine z_lor (pc := 31) K d_M_setOf_31 ?_
          refine z_lstore_n (pc := 32) K d_M_setOf_32 rfl (by decide) rfl ?_
          refine z_iinc (pc := 33) K (v := nI (i + 1)) d_M_setOf_33 1 rfl (inc1 i) (by decide) rfl ?_
          refine z_goto (pc := 36) K (tgt := 5) d_M_setOf_36 (by decide) ?_
          refine z_lv [0, 1, 2, 3] rfl ?_
          exact ih (i + 1) _ (by omega) (by rw [orS, hf]; simp [c20, s_bit])
        · refine z_lconst (pc := 23) K (v := 1) d_M_setOf_23 (by decide) ?_
          refine z_iload (pc := 24) K d_M_setOf_24 rfl ?_
          refine z_lshl (pc := 26) K d_M_setOf_26 ?_
          refine z_goto (pc := 27) K (tgt := 31) d_M_setOf_27 (by decide) ?_
          refine z_lor (pc := 31) K d_M_setOf_31 ?_
          refine z_lstore_n (pc := 32) K d_M_setOf_32 rfl (by decide) rfl ?_
          refine z_iinc (pc := 33) K (v := nI (i + 1)) d_M_setOf_33 1 rfl (inc1 i) (by decide) rfl ?_
          refine z_goto (pc := 36) K (tgt := 5) d_M_setOf_36 (by decide) ?_
          refine z_lv [0, 1, 2, 3] rfl ?_
          exact ih (i + 1) _ (by omega) (by rw [orS, hf]; simp [c20, s_bit])
  refine z_lv [0, 1, 2, 3] rfl ?_
  exact LP 48 0 0 rfl rfl
set_option maxRecDepth 100000 in
set_option maxHeartbeats 4000000 in
theorem m_aboutOf_c (v : MS) (t : Nat) (w : Int32) (ht : t < 5420) (hn : (mL v).1 t < 16) (hv : mV v ((mL v).1 t) ≤ 48) : MI l D vwCl (CT cI cJ cC cZ) (MW a cI cJ cZ) y_M_aboutOf (wA y_M_aboutOf prog_8_method_17_code 5 (some .int)) { frames := 3, cells := 0, slots := 0, locals := 65 } [.ref (a 0), .int (nI t), .int w] v (m_about (mV v) (mL v) t w) (v) := by
  refine MI.of (cc := prog_8_method_17_code) (nL := 5) (by decide) rfl (Nat.le_of_ble_eq_true rfl) ?_
  intro p e s m below meth c A Q K ret
  refine z_lvE (lv' := [(0, .ref (a 0)), (1, .int (nI t)), (2, .int w)]) rfl ?_
  refine z_iconst (pc := 0) K (v := 0) d_M_aboutOf_0 (by decide) ?_
  refine z_istore_n (pc := 1) K d_M_aboutOf_1 rfl (by decide) rfl ?_
  refine z_iconst (pc := 2) K (v := 0) d_M_aboutOf_2 (by decide) ?_
  refine z_istore (pc := 3) K d_M_aboutOf_3 (by decide) rfl ?_
  have LP : ∀ (n i f : Nat), i + n = 48 → f = cntB (m_isL (mV v) (mL v) t) i → zW p l e { frames := 3, cells := 0, slots := 0, locals := 65 } s m [.ref (a 0), .int (nI t), .int w].toArray below meth c D vwCl A 5 0 0 Q (MW a cI cJ cZ v) 5 [(4, .int (nI i)), (3, .int (nI f)), (0, .ref (a 0)), (1, .int (nI t)), (2, .int w)] [] := by
    intro n
    induction n with
    | zero =>
      intro i f hi hf
      have hb : i = 48 := by omega
      subst hb
      refine z_iload (pc := 5) K d_M_aboutOf_5 rfl ?_
      refine z_bipush (pc := 7) K (v := 48) d_M_aboutOf_7 (by decide) ?_
      refine z_icmp_ge (pc := 9) K (tgt := 36) d_M_aboutOf_9 (by decide) (fun c9 => ?_) (fun c9 => ?_)
      · refine z_iload_n (pc := 36) K d_M_aboutOf_36 rfl ?_
        refine z_if_ne (pc := 37) K (tgt := 49) d_M_aboutOf_37 (by decide) (fun c37 => ?_) (fun c37 => ?_)
        · refine z_iload_n (pc := 49) K d_M_aboutOf_49 rfl ?_
          refine z_iconst (pc := 50) K (v := 1) d_M_aboutOf_50 (by decide) ?_
          refine z_icmp_ne (pc := 51) K (tgt := 70) d_M_aboutOf_51 (by decide) (fun c51 => ?_) (fun c51 => ?_)
          · refine z_iload_n (pc := 70) K d_M_aboutOf_70 rfl ?_
            refine z_iconst (pc := 71) K (v := 2) d_M_aboutOf_71 (by decide) ?_
            refine z_icmp_ne (pc := 72) K (tgt := 79) d_M_aboutOf_72 (by decide) (fun c72 => ?_) (fun c72 => ?_)
            · refine z_iconst (pc := 79) K (v := (-1)) d_M_aboutOf_79 (by decide) ?_
              exact z_reti (pc := 80) ret d_M_aboutOf_80 (by rw [m_about, if_neg c37, if_neg c51, if_neg c72]) rfl
            · refine z_iload_n (pc := 75) K d_M_aboutOf_75 rfl ?_
              refine z_goto (pc := 76) K (tgt := 80) d_M_aboutOf_76 (by decide) ?_
              exact z_reti (pc := 80) ret d_M_aboutOf_80 (by rw [m_about, if_neg c37, if_neg c51, if_pos c72, hf]) rfl
          · refine z_aload_n (pc := 54) K d_M_aboutOf_54 rfl ?_
            refine z_iload_n (pc := 55) K d_M_aboutOf_55 rfl ?_
            refine z_cVi (pc := 56) K 0 (m_isWanted_c _ _ ht) (cwA K 1 k600 k602 ks23 k7 k603 q_M_isWanted ⟨Nat.le_of_ble_eq_true rfl, Nat.le_of_ble_eq_true rfl⟩) d_M_aboutOf_56 rfl rfl rfl rfl rfl (Nat.le_of_ble_eq_true rfl) ⟨Nat.le_of_ble_eq_true rfl, Nat.le_of_ble_eq_true rfl⟩ ?_
            refine z_ifb_eq (pc := 59) K (tgt := 66) d_M_aboutOf_59 (by decide) (fun c59 => ?_) (fun c59 => ?_)
            · refine z_iconst (pc := 66) K (v := 0) d_M_aboutOf_66 (by decide) ?_
              refine z_goto (pc := 67) K (tgt := 80) d_M_aboutOf_67 (by decide) ?_
              exact z_reti (pc := 80) ret d_M_aboutOf_80 (by rw [m_about, if_neg c37, if_pos c51, c59] <;> rfl) rfl
            · refine z_iconst (pc := 62) K (v := 1) d_M_aboutOf_62 (by decide) ?_
              refine z_goto (pc := 63) K (tgt := 80) d_M_aboutOf_63 (by decide) ?_
              exact z_reti (pc := 80) ret d_M_aboutOf_80 (by rw [m_about, if_neg c37, if_pos c51, c59] <;> rfl) rfl
        · refine z_aload_n (pc := 40) K d_M_aboutOf_40 rfl ?_
          refine z_get (pc := 41) K (ref := "DemandTermsModel") d_M_aboutOf_41 hi_M 0 rfl rfl 6 (by decide) k478 rfl rfl ?_
          refine z_iload_n (pc := 44) K d_M_aboutOf_44 rfl ?_
          refine z_iald (pc := 45) K d_M_aboutOf_45 2 0 rfl rfl (vp_in_nI ht (by decide)) ?_
          refine z_goto (pc := 46) K (tgt := 80) d_M_aboutOf_46 (by decide) ?_
          exact z_reti (pc := 80) ret d_M_aboutOf_80 (by rw [m_about, if_pos c37, nI_clamp (show t < 2 ^ 31 by omega)]) rfl
      · exact absurd (nI_le (a := 48) (b := 48) (by omega) (by omega)) c9
    | succ n ih =>
      intro i f hi hf
      refine z_iload (pc := 5) K d_M_aboutOf_5 rfl ?_
      refine z_bipush (pc := 7) K (v := 48) d_M_aboutOf_7 (by decide) ?_
      refine z_icmp_ge (pc := 9) K (tgt := 36) d_M_aboutOf_9 (by decide) (fun c9 => ?_) (fun c9 => ?_)
      · exact absurd c9 (nI_ge (a := i) (b := 48) (by omega) (by omega))
      · refine z_iload_n (pc := 12) K d_M_aboutOf_12 rfl ?_
        refine z_aload_n (pc := 13) K d_M_aboutOf_13 rfl ?_
        refine z_iload_n (pc := 14) K d_M_aboutOf_14 rfl ?_
        refine z_iload (pc := 15) K d_M_aboutOf_15 rfl ?_
        refine z_cVi (pc := 17) K 0 (m_isListed_c _ t i ht hn hv (by omega)) (cwA K 2 k596 k598 ks22 k7 k599 q_M_isListed ⟨Nat.le_of_ble_eq_true rfl, Nat.le_of_ble_eq_true rfl⟩) d_M_aboutOf_17 rfl rfl rfl rfl rfl (Nat.le_of_ble_eq_true rfl) ⟨Nat.le_of_ble_eq_true rfl, Nat.le_of_ble_eq_true rfl⟩ ?_
        refine z_ifb_eq (pc := 20) K (tgt := 27) d_M_aboutOf_20 (by decide) (fun c20 => ?_) (fun c20 => ?_)
        · refine z_iconst (pc := 27) K (v := 0) d_M_aboutOf_27 (by decide) ?_
          refine z_iadd (pc := 28) K d_M_aboutOf_28 ?_
          refine z_eqi (nI_z _) ?_
          refine z_istore_n (pc := 29) K d_M_aboutOf_29 rfl (by decide) rfl ?_
          refine z_iinc (pc := 30) K (v := nI (i + 1)) d_M_aboutOf_30 1 rfl (inc1 i) (by decide) rfl ?_
          refine z_goto (pc := 33) K (tgt := 5) d_M_aboutOf_33 (by decide) ?_
          refine z_lv [0, 1, 2, 3, 4] rfl ?_
          exact ih (i + 1) _ (by omega) (by rw [cntB, hf]; simp [c20])
        · refine z_iconst (pc := 23) K (v := 1) d_M_aboutOf_23 (by decide) ?_
          refine z_goto (pc := 24) K (tgt := 28) d_M_aboutOf_24 (by decide) ?_
          refine z_iadd (pc := 28) K d_M_aboutOf_28 ?_
          refine z_eqi (nI_1 _) ?_
          refine z_istore_n (pc := 29) K d_M_aboutOf_29 rfl (by decide) rfl ?_
          refine z_iinc (pc := 30) K (v := nI (i + 1)) d_M_aboutOf_30 1 rfl (inc1 i) (by decide) rfl ?_
          refine z_goto (pc := 33) K (tgt := 5) d_M_aboutOf_33 (by decide) ?_
          refine z_lv [0, 1, 2, 3, 4] rfl ?_
          exact ih (i + 1) _ (by omega) (by rw [cntB, hf]; simp [c20])
  refine z_lv [0, 1, 2, 3, 4] rfl ?_
  exact LP 48 0 0 rfl rfl
set_option maxRecDepth 100000 in
set_option maxHeartbeats 4000000 in
theorem m_relation_c (v : MS) (x : Nat) (y : Nat) (hx : x < 5420) (hy : y < 5420) : MI l D vwCl (CT cI cJ cC cZ) (MW a cI cJ cZ) y_M_relation (wA y_M_relation prog_8_method_20_code 6 (some .int)) { frames := 1, cells := 0, slots := 0, locals := 22 } [.ref (a 0), .int (nI x), .int (nI y)] v (m_rel (mL v) x y) (v) := by
  refine MI.of (cc := prog_8_method_20_code) (nL := 6) (by decide) rfl (Nat.le_of_ble_eq_true rfl) ?_
  intro p e s m below meth c A Q K ret
  refine z_lvE (lv' := [(0, .ref (a 0)), (1, .int (nI x)), (2, .int (nI y))]) rfl ?_
  refine z_iconst (pc := 0) K (v := 1) d_M_relation_0 (by decide) ?_
  refine z_istore_n (pc := 1) K d_M_relation_1 rfl (by decide) rfl ?_
  refine z_iconst (pc := 2) K (v := 0) d_M_relation_2 (by decide) ?_
  refine z_istore (pc := 3) K d_M_relation_3 (by decide) rfl ?_
  refine z_iconst (pc := 5) K (v := (-1)) d_M_relation_5 (by decide) ?_
  refine z_istore (pc := 6) K d_M_relation_6 (by decide) rfl ?_
  have LP : ∀ (n b : Nat) (f g : Bool), b + n = 49 → f = allB (fun b => !((mL v).2 x b) || (mL v).2 y b) b → g = anyB (fun b => (mL v).2 x b && (mL v).2 y b) b → zW p l e { frames := 1, cells := 0, slots := 0, locals := 22 } s m [.ref (a 0), .int (nI x), .int (nI y)].toArray below meth c D vwCl A 6 0 0 Q (MW a cI cJ cZ v) 8 [(5, .int (vI b)), (4, .int (bI g)), (3, .int (bI f)), (0, .ref (a 0)), (1, .int (nI x)), (2, .int (nI y))] [] := by
    intro n
    induction n with
    | zero =>
      intro b f g hi hf hg
      have hb : b = 49 := by omega
      subst hb
      refine z_iload (pc := 8) K d_M_relation_8 rfl ?_
      refine z_bipush (pc := 10) K (v := 48) d_M_relation_10 (by decide) ?_
      refine z_icmp_ge (pc := 12) K (tgt := 83) d_M_relation_12 (by decide) (fun c12 => ?_) (fun c12 => ?_)
      · refine z_iload (pc := 83) K d_M_relation_83 rfl ?_
        refine z_ifb_ne (pc := 85) K (tgt := 92) d_M_relation_85 (by decide) (fun c85 => ?_) (fun c85 => ?_)
        · refine z_iload_n (pc := 92) K d_M_relation_92 rfl ?_
          refine z_ifb_eq (pc := 93) K (tgt := 100) d_M_relation_93 (by decide) (fun c93 => ?_) (fun c93 => ?_)
          · refine z_iconst (pc := 100) K (v := 0) d_M_relation_100 (by decide) ?_
            exact z_reti (pc := 101) ret d_M_relation_101 (by rw [m_rel, ← hg, if_neg (by rw [c85]; decide), ← hf, if_neg (by rw [c93]; decide)]) rfl
          · refine z_iconst (pc := 96) K (v := 1) d_M_relation_96 (by decide) ?_
            refine z_goto (pc := 97) K (tgt := 101) d_M_relation_97 (by decide) ?_
            exact z_reti (pc := 101) ret d_M_relation_101 (by rw [m_rel, ← hg, if_neg (by rw [c85]; decide), ← hf, if_pos c93]) rfl
        · refine z_iconst (pc := 88) K (v := (-1)) d_M_relation_88 (by decide) ?_
          refine z_goto (pc := 89) K (tgt := 101) d_M_relation_89 (by decide) ?_
          exact z_reti (pc := 101) ret d_M_relation_101 (by rw [m_rel, ← hg, if_pos c85]) rfl
      · exact absurd ((vI_le (k := 48) (by decide) (by omega)).mpr (by omega)) c12
    | succ n ih =>
      intro b f g hi hf hg
      refine z_iload (pc := 8) K d_M_relation_8 rfl ?_
      refine z_bipush (pc := 10) K (v := 48) d_M_relation_10 (by decide) ?_
      refine z_icmp_ge (pc := 12) K (tgt := 83) d_M_relation_12 (by decide) (fun c12 => ?_) (fun c12 => ?_)
      · exact absurd ((vI_le (k := 48) (by decide) (by omega)).mp c12) (by omega)
      · refine z_iload_n (pc := 15) K d_M_relation_15 rfl ?_
        refine z_ifb_eq (pc := 16) K (tgt := 43) d_M_relation_16 (by decide) (fun c16 => ?_) (fun c16 => ?_)
        · refine z_iconst (pc := 43) K (v := 0) d_M_relation_43 (by decide) ?_
          refine z_eqi (y := bI false) rfl ?_
          refine z_istore_n (pc := 44) K d_M_relation_44 rfl (by decide) rfl ?_
          refine z_iload (pc := 45) K d_M_relation_45 rfl ?_
          refine z_ifb_ne (pc := 47) K (tgt := 70) d_M_relation_47 (by decide) (fun c47 => ?_) (fun c47 => ?_)
          · refine z_iconst (pc := 70) K (v := 1) d_M_relation_70 (by decide) ?_
            refine z_goto (pc := 71) K (tgt := 75) d_M_relation_71 (by decide) ?_
            refine z_eqi (y := bI true) rfl ?_
            refine z_istore (pc := 75) K d_M_relation_75 (by decide) rfl ?_
            refine z_iinc (pc := 77) K (v := vI (b + 1)) d_M_relation_77 2 rfl (vI_inc b) (by decide) rfl ?_
            refine z_goto (pc := 80) K (tgt := 8) d_M_relation_80 (by decide) ?_
            refine z_lv [0, 1, 2, 3, 4, 5] rfl ?_
            exact ih (b + 1) _ _ (by omega) (by rw [allB, ← hf]; simp [c16]) (by rw [anyB, ← hg]; simp [c47])
          · refine z_aload_n (pc := 50) K d_M_relation_50 rfl ?_
            refine z_iload_n (pc := 51) K d_M_relation_51 rfl ?_
            refine z_iload (pc := 52) K d_M_relation_52 rfl ?_
            refine z_cVi (pc := 54) K 0 (m_isSaid_c _ x b hx (by omega)) (cwA K 2 k576 k578 ks19 k7 k579 q_M_isSaid ⟨Nat.le_of_ble_eq_true rfl, Nat.le_of_ble_eq_true rfl⟩) d_M_relation_54 rfl rfl rfl rfl rfl (Nat.le_of_ble_eq_true rfl) ⟨Nat.le_of_ble_eq_true rfl, Nat.le_of_ble_eq_true rfl⟩ ?_
            refine z_ifb_eq (pc := 57) K (tgt := 74) d_M_relation_57 (by decide) (fun c57 => ?_) (fun c57 => ?_)
            · refine z_iconst (pc := 74) K (v := 0) d_M_relation_74 (by decide) ?_
              refine z_eqi (y := bI false) rfl ?_
              refine z_istore (pc := 75) K d_M_relation_75 (by decide) rfl ?_
              refine z_iinc (pc := 77) K (v := vI (b + 1)) d_M_relation_77 2 rfl (vI_inc b) (by decide) rfl ?_
              refine z_goto (pc := 80) K (tgt := 8) d_M_relation_80 (by decide) ?_
              refine z_lv [0, 1, 2, 3, 4, 5] rfl ?_
              exact ih (b + 1) _ _ (by omega) (by rw [allB, ← hf]; simp [c16]) (by rw [anyB, ← hg]; simp [c47, c57])
            · refine z_aload_n (pc := 60) K d_M_relation_60 rfl ?_
              refine z_iload_n (pc := 61) K d_M_relation_61 rfl ?_
              refine z_iload (pc := 62) K d_M_relation_62 rfl ?_
              refine z_cVi (pc := 64) K 0 (m_isSaid_c _ y b hy (by omega)) (cwA K 2 k576 k578 ks19 k7 k579 q_M_isSaid ⟨Nat.le_of_ble_eq_true rfl, Nat.le_of_ble_eq_true rfl⟩) d_M_relation_64 rfl rfl rfl rfl rfl (Nat.le_of_ble_eq_true rfl) ⟨Nat.le_of_ble_eq_true rfl, Nat.le_of_ble_eq_true rfl⟩ ?_
              refine z_ifb_eq (pc := 67) K (tgt := 74) d_M_relation_67 (by decide) (fun c67 => ?_) (fun c67 => ?_)
              · refine z_iconst (pc := 74) K (v := 0) d_M_relation_74 (by decide) ?_
                refine z_eqi (y := bI false) rfl ?_
                refine z_istore (pc := 75) K d_M_relation_75 (by decide) rfl ?_
                refine z_iinc (pc := 77) K (v := vI (b + 1)) d_M_relation_77 2 rfl (vI_inc b) (by decide) rfl ?_
                refine z_goto (pc := 80) K (tgt := 8) d_M_relation_80 (by decide) ?_
                refine z_lv [0, 1, 2, 3, 4, 5] rfl ?_
                exact ih (b + 1) _ _ (by omega) (by rw [allB, ← hf]; simp [c16]) (by rw [anyB, ← hg]; simp [c47, c57, c67])
              · refine z_iconst (pc := 70) K (v := 1) d_M_relation_70 (by decide) ?_
                refine z_goto (pc := 71) K (tgt := 75) d_M_relation_71 (by decide) ?_
                refine z_eqi (y := bI true) rfl ?_
                refine z_istore (pc := 75) K d_M_relation_75 (by decide) rfl ?_
                refine z_iinc (pc := 77) K (v := vI (b + 1)) d_M_relation_77 2 rfl (vI_inc b) (by decide) rfl ?_
                refine z_goto (pc := 80) K (tgt := 8) d_M_relation_80 (by decide) ?_
                refine z_lv [0, 1, 2, 3, 4, 5] rfl ?_
                exact ih (b + 1) _ _ (by omega) (by rw [allB, ← hf]; simp [c16]) (by rw [anyB, ← hg]; simp [c47, c57, c67])
        · refine z_aload_n (pc := 19) K d_M_relation_19 rfl ?_
          refine z_iload_n (pc := 20) K d_M_relation_20 rfl ?_
          refine z_iload (pc := 21) K d_M_relation_21 rfl ?_
          refine z_cVi (pc := 23) K 0 (m_isSaid_c _ x b hx (by omega)) (cwA K 2 k576 k578 ks19 k7 k579 q_M_isSaid ⟨Nat.le_of_ble_eq_true rfl, Nat.le_of_ble_eq_true rfl⟩) d_M_relation_23 rfl rfl rfl rfl rfl (Nat.le_of_ble_eq_true rfl) ⟨Nat.le_of_ble_eq_true rfl, Nat.le_of_ble_eq_true rfl⟩ ?_
          refine z_ifb_eq (pc := 26) K (tgt := 39) d_M_relation_26 (by decide) (fun c26 => ?_) (fun c26 => ?_)
          · refine z_iconst (pc := 39) K (v := 1) d_M_relation_39 (by decide) ?_
            refine z_goto (pc := 40) K (tgt := 44) d_M_relation_40 (by decide) ?_
            refine z_eqi (y := bI true) rfl ?_
            refine z_istore_n (pc := 44) K d_M_relation_44 rfl (by decide) rfl ?_
            refine z_iload (pc := 45) K d_M_relation_45 rfl ?_
            refine z_ifb_ne (pc := 47) K (tgt := 70) d_M_relation_47 (by decide) (fun c47 => ?_) (fun c47 => ?_)
            · refine z_iconst (pc := 70) K (v := 1) d_M_relation_70 (by decide) ?_
              refine z_goto (pc := 71) K (tgt := 75) d_M_relation_71 (by decide) ?_
              refine z_eqi (y := bI true) rfl ?_
              refine z_istore (pc := 75) K d_M_relation_75 (by decide) rfl ?_
              refine z_iinc (pc := 77) K (v := vI (b + 1)) d_M_relation_77 2 rfl (vI_inc b) (by decide) rfl ?_
              refine z_goto (pc := 80) K (tgt := 8) d_M_relation_80 (by decide) ?_
              refine z_lv [0, 1, 2, 3, 4, 5] rfl ?_
              exact ih (b + 1) _ _ (by omega) (by rw [allB, ← hf]; simp [c16, c26]) (by rw [anyB, ← hg]; simp [c47])
            · refine z_aload_n (pc := 50) K d_M_relation_50 rfl ?_
              refine z_iload_n (pc := 51) K d_M_relation_51 rfl ?_
              refine z_iload (pc := 52) K d_M_relation_52 rfl ?_
              refine z_cVi (pc := 54) K 0 (m_isSaid_c _ x b hx (by omega)) (cwA K 2 k576 k578 ks19 k7 k579 q_M_isSaid ⟨Nat.le_of_ble_eq_true rfl, Nat.le_of_ble_eq_true rfl⟩) d_M_relation_54 rfl rfl rfl rfl rfl (Nat.le_of_ble_eq_true rfl) ⟨Nat.le_of_ble_eq_true rfl, Nat.le_of_ble_eq_true rfl⟩ ?_
              refine z_ifb_eq (pc := 57) K (tgt := 74) d_M_relation_57 (by decide) (fun c57 => ?_) (fun c57 => ?_)
              · refine z_iconst (pc := 74) K (v := 0) d_M_relation_74 (by decide) ?_
                refine z_eqi (y := bI false) rfl ?_
                refine z_istore (pc := 75) K d_M_relation_75 (by decide) rfl ?_
                refine z_iinc (pc := 77) K (v := vI (b + 1)) d_M_relation_77 2 rfl (vI_inc b) (by decide) rfl ?_
                refine z_goto (pc := 80) K (tgt := 8) d_M_relation_80 (by decide) ?_
                refine z_lv [0, 1, 2, 3, 4, 5] rfl ?_
                exact ih (b + 1) _ _ (by omega) (by rw [allB, ← hf]; simp [c16, c26]) (by rw [anyB, ← hg]; simp [c47, c57])
              · refine z_aload_n (pc := 60) K d_M_relation_60 rfl ?_
                refine z_iload_n (pc := 61) K d_M_relation_61 rfl ?_
                refine z_iload (pc := 62) K d_M_relation_62 rfl ?_
                refine z_cVi (pc := 64) K 0 (m_isSaid_c _ y b hy (by omega)) (cwA K 2 k576 k578 ks19 k7 k579 q_M_isSaid ⟨Nat.le_of_ble_eq_true rfl, Nat.le_of_ble_eq_true rfl⟩) d_M_relation_64 rfl rfl rfl rfl rfl (Nat.le_of_ble_eq_true rfl) ⟨Nat.le_of_ble_eq_true rfl, Nat.le_of_ble_eq_true rfl⟩ ?_
                refine z_ifb_eq (pc := 67) K (tgt := 74) d_M_relation_67 (by decide) (fun c67 => ?_) (fun c67 => ?_)
                · refine z_iconst (pc := 74) K (v := 0) d_M_relation_74 (by decide) ?_
                  refine z_eqi (y := bI false) rfl ?_
                  refine z_istore (pc := 75) K d_M_relation_75 (by decide) rfl ?_
                  refine z_iinc (pc := 77) K (v := vI (b + 1)) d_M_relation_77 2 rfl (vI_inc b) (by decide) rfl ?_
                  refine z_goto (pc := 80) K (tgt := 8) d_M_relation_80 (by decide) ?_
                  refine z_lv [0, 1, 2, 3, 4, 5] rfl ?_
                  exact ih (b + 1) _ _ (by omega) (by rw [allB, ← hf]; simp [c16, c26]) (by rw [anyB, ← hg]; simp [c47, c57, c67])
                · refine z_iconst (pc := 70) K (v := 1) d_M_relation_70 (by decide) ?_
                  refine z_goto (pc := 71) K (tgt := 75) d_M_relation_71 (by decide) ?_
                  refine z_eqi (y := bI true) rfl ?_
                  refine z_istore (pc := 75) K d_M_relation_75 (by decide) rfl ?_
                  refine z_iinc (pc := 77) K (v := vI (b + 1)) d_M_relation_77 2 rfl (vI_inc b) (by decide) rfl ?_
                  refine z_goto (pc := 80) K (tgt := 8) d_M_relation_80 (by decide) ?_
                  refine z_lv [0, 1, 2, 3, 4, 5] rfl ?_
                  exact ih (b + 1) _ _ (by omega) (by rw [allB, ← hf]; simp [c16, c26]) (by rw [anyB, ← hg]; simp [c47, c57, c67])
          · refine z_aload_n (pc := 29) K d_M_relation_29 rfl ?_
            refine z_iload_n (pc := 30) K d_M_relation_30 rfl ?_
            refine z_iload (pc := 31) K d_M_relation_31 rfl ?_
            refine z_cVi (pc := 33) K 0 (m_isSaid_c _ y b hy (by omega)) (cwA K 2 k576 k578 ks19 k7 k579 q_M_isSaid ⟨Nat.le_of_ble_eq_true rfl, Nat.le_of_ble_eq_true rfl⟩) d_M_relation_33 rfl rfl rfl rfl rfl (Nat.le_of_ble_eq_true rfl) ⟨Nat.le_of_ble_eq_true rfl, Nat.le_of_ble_eq_true rfl⟩ ?_
            refine z_ifb_eq (pc := 36) K (tgt := 43) d_M_relation_36 (by decide) (fun c36 => ?_) (fun c36 => ?_)
            · refine z_iconst (pc := 43) K (v := 0) d_M_relation_43 (by decide) ?_
              refine z_eqi (y := bI false) rfl ?_
              refine z_istore_n (pc := 44) K d_M_relation_44 rfl (by decide) rfl ?_
              refine z_iload (pc := 45) K d_M_relation_45 rfl ?_
              refine z_ifb_ne (pc := 47) K (tgt := 70) d_M_relation_47 (by decide) (fun c47 => ?_) (fun c47 => ?_)
              · refine z_iconst (pc := 70) K (v := 1) d_M_relation_70 (by decide) ?_
                refine z_goto (pc := 71) K (tgt := 75) d_M_relation_71 (by decide) ?_
                refine z_eqi (y := bI true) rfl ?_
                refine z_istore (pc := 75) K d_M_relation_75 (by decide) rfl ?_
                refine z_iinc (pc := 77) K (v := vI (b + 1)) d_M_relation_77 2 rfl (vI_inc b) (by decide) rfl ?_
                refine z_goto (pc := 80) K (tgt := 8) d_M_relation_80 (by decide) ?_
                refine z_lv [0, 1, 2, 3, 4, 5] rfl ?_
                exact ih (b + 1) _ _ (by omega) (by rw [allB, ← hf]; simp [c16, c26, c36]) (by rw [anyB, ← hg]; simp [c47])
              · refine z_aload_n (pc := 50) K d_M_relation_50 rfl ?_
                refine z_iload_n (pc := 51) K d_M_relation_51 rfl ?_
                refine z_iload (pc := 52) K d_M_relation_52 rfl ?_
                refine z_cVi (pc := 54) K 0 (m_isSaid_c _ x b hx (by omega)) (cwA K 2 k576 k578 ks19 k7 k579 q_M_isSaid ⟨Nat.le_of_ble_eq_true rfl, Nat.le_of_ble_eq_true rfl⟩) d_M_relation_54 rfl rfl rfl rfl rfl (Nat.le_of_ble_eq_true rfl) ⟨Nat.le_of_ble_eq_true rfl, Nat.le_of_ble_eq_true rfl⟩ ?_
                refine z_ifb_eq (pc := 57) K (tgt := 74) d_M_relation_57 (by decide) (fun c57 => ?_) (fun c57 => ?_)
                · refine z_iconst (pc := 74) K (v := 0) d_M_relation_74 (by decide) ?_
                  refine z_eqi (y := bI false) rfl ?_
                  refine z_istore (pc := 75) K d_M_relation_75 (by decide) rfl ?_
                  refine z_iinc (pc := 77) K (v := vI (b + 1)) d_M_relation_77 2 rfl (vI_inc b) (by decide) rfl ?_
                  refine z_goto (pc := 80) K (tgt := 8) d_M_relation_80 (by decide) ?_
                  refine z_lv [0, 1, 2, 3, 4, 5] rfl ?_
                  exact ih (b + 1) _ _ (by omega) (by rw [allB, ← hf]; simp [c16, c26, c36]) (by rw [anyB, ← hg]; simp [c47, c57])
                · refine z_aload_n (pc := 60) K d_M_relation_60 rfl ?_
                  refine z_iload_n (pc := 61) K d_M_relation_61 rfl ?_
                  refine z_iload (pc := 62) K d_M_relation_62 rfl ?_
                  refine z_cVi (pc := 64) K 0 (m_isSaid_c _ y b hy (by omega)) (cwA K 2 k576 k578 ks19 k7 k579 q_M_isSaid ⟨Nat.le_of_ble_eq_true rfl, Nat.le_of_ble_eq_true rfl⟩) d_M_relation_64 rfl rfl rfl rfl rfl (Nat.le_of_ble_eq_true rfl) ⟨Nat.le_of_ble_eq_true rfl, Nat.le_of_ble_eq_true rfl⟩ ?_
                  refine z_ifb_eq (pc := 67) K (tgt := 74) d_M_relation_67 (by decide) (fun c67 => ?_) (fun c67 => ?_)
                  · refine z_iconst (pc := 74) K (v := 0) d_M_relation_74 (by decide) ?_
                    refine z_eqi (y := bI false) rfl ?_
                    refine z_istore (pc := 75) K d_M_relation_75 (by decide) rfl ?_
                    refine z_iinc (pc := 77) K (v := vI (b + 1)) d_M_relation_77 2 rfl (vI_inc b) (by decide) rfl ?_
                    refine z_goto (pc := 80) K (tgt := 8) d_M_relation_80 (by decide) ?_
                    refine z_lv [0, 1, 2, 3, 4, 5] rfl ?_
                    exact ih (b + 1) _ _ (by omega) (by rw [allB, ← hf]; simp [c16, c26, c36]) (by rw [anyB, ← hg]; simp [c47, c57, c67])
                  · refine z_iconst (pc := 70) K (v := 1) d_M_relation_70 (by decide) ?_
                    refine z_goto (pc := 71) K (tgt := 75) d_M_relation_71 (by decide) ?_
                    refine z_eqi (y := bI true) rfl ?_
                    refine z_istore (pc := 75) K d_M_relation_75 (by decide) rfl ?_
                    refine z_iinc (pc := 77) K (v := vI (b + 1)) d_M_relation_77 2 rfl (vI_inc b) (by decide) rfl ?_
                    refine z_goto (pc := 80) K (tgt := 8) d_M_relation_80 (by decide) ?_
                    refine z_lv [0, 1, 2, 3, 4, 5] rfl ?_
                    exact ih (b + 1) _ _ (by omega) (by rw [allB, ← hf]; simp [c16, c26, c36]) (by rw [anyB, ← hg]; simp [c47, c57, c67])
            · refine z_iconst (pc := 39) K (v := 1) d_M_relation_39 (by decide) ?_
              refine z_goto (pc := 40) K (tgt := 44) d_M_relation_40 (by decide) ?_
              refine z_eqi (y := bI true) rfl ?_
              refine z_istore_n (pc := 44) K d_M_relation_44 rfl (by decide) rfl ?_
              refine z_iload (pc := 45) K d_M_relation_45 rfl ?_
              refine z_ifb_ne (pc := 47) K (tgt := 70) d_M_relation_47 (by decide) (fun c47 => ?_) (fun c47 => ?_)
              · refine z_iconst (pc := 70) K (v := 1) d_M_relation_70 (by decide) ?_
                refine z_goto (pc := 71) K (tgt := 75) d_M_relation_71 (by decide) ?_
                refine z_eqi (y := bI true) rfl ?_
                refine z_istore (pc := 75) K d_M_relation_75 (by decide) rfl ?_
                refine z_iinc (pc := 77) K (v := vI (b + 1)) d_M_relation_77 2 rfl (vI_inc b) (by decide) rfl ?_
                refine z_goto (pc := 80) K (tgt := 8) d_M_relation_80 (by decide) ?_
                refine z_lv [0, 1, 2, 3, 4, 5] rfl ?_
                exact ih (b + 1) _ _ (by omega) (by rw [allB, ← hf]; simp [c16, c26, c36]) (by rw [anyB, ← hg]; simp [c47])
              · refine z_aload_n (pc := 50) K d_M_relation_50 rfl ?_
                refine z_iload_n (pc := 51) K d_M_relation_51 rfl ?_
                refine z_iload (pc := 52) K d_M_relation_52 rfl ?_
                refine z_cVi (pc := 54) K 0 (m_isSaid_c _ x b hx (by omega)) (cwA K 2 k576 k578 ks19 k7 k579 q_M_isSaid ⟨Nat.le_of_ble_eq_true rfl, Nat.le_of_ble_eq_true rfl⟩) d_M_relation_54 rfl rfl rfl rfl rfl (Nat.le_of_ble_eq_true rfl) ⟨Nat.le_of_ble_eq_true rfl, Nat.le_of_ble_eq_true rfl⟩ ?_
                refine z_ifb_eq (pc := 57) K (tgt := 74) d_M_relation_57 (by decide) (fun c57 => ?_) (fun c57 => ?_)
                · refine z_iconst (pc := 74) K (v := 0) d_M_relation_74 (by decide) ?_
                  refine z_eqi (y := bI false) rfl ?_
                  refine z_istore (pc := 75) K d_M_relation_75 (by decide) rfl ?_
                  refine z_iinc (pc := 77) K (v := vI (b + 1)) d_M_relation_77 2 rfl (vI_inc b) (by decide) rfl ?_
                  refine z_goto (pc := 80) K (tgt := 8) d_M_relation_80 (by decide) ?_
                  refine z_lv [0, 1, 2, 3, 4, 5] rfl ?_
                  exact ih (b + 1) _ _ (by omega) (by rw [allB, ← hf]; simp [c16, c26, c36]) (by rw [anyB, ← hg]; simp [c47, c57])
                · refine z_aload_n (pc := 60) K d_M_relation_60 rfl ?_
                  refine z_iload_n (pc := 61) K d_M_relation_61 rfl ?_
                  refine z_iload (pc := 62) K d_M_relation_62 rfl ?_
                  refine z_cVi (pc := 64) K 0 (m_isSaid_c _ y b hy (by omega)) (cwA K 2 k576 k578 ks19 k7 k579 q_M_isSaid ⟨Nat.le_of_ble_eq_true rfl, Nat.le_of_ble_eq_true rfl⟩) d_M_relation_64 rfl rfl rfl rfl rfl (Nat.le_of_ble_eq_true rfl) ⟨Nat.le_of_ble_eq_true rfl, Nat.le_of_ble_eq_true rfl⟩ ?_
                  refine z_ifb_eq (pc := 67) K (tgt := 74) d_M_relation_67 (by decide) (fun c67 => ?_) (fun c67 => ?_)
                  · refine z_iconst (pc := 74) K (v := 0) d_M_relation_74 (by decide) ?_
                    refine z_eqi (y := bI false) rfl ?_
                    refine z_istore (pc := 75) K d_M_relation_75 (by decide) rfl ?_
                    refine z_iinc (pc := 77) K (v := vI (b + 1)) d_M_relation_77 2 rfl (vI_inc b) (by decide) rfl ?_
                    refine z_goto (pc := 80) K (tgt := 8) d_M_relation_80 (by decide) ?_
                    refine z_lv [0, 1, 2, 3, 4, 5] rfl ?_
                    exact ih (b + 1) _ _ (by omega) (by rw [allB, ← hf]; simp [c16, c26, c36]) (by rw [anyB, ← hg]; simp [c47, c57, c67])
                  · refine z_iconst (pc := 70) K (v := 1) d_M_relation_70 (by decide) ?_
                    refine z_goto (pc := 71) K (tgt := 75) d_M_relation_71 (by decide) ?_
                    refine z_eqi (y := bI true) rfl ?_
                    refine z_istore (pc := 75) K d_M_relation_75 (by decide) rfl ?_
                    refine z_iinc (pc := 77) K (v := vI (b + 1)) d_M_relation_77 2 rfl (vI_inc b) (by decide) rfl ?_
                    refine z_goto (pc := 80) K (tgt := 8) d_M_relation_80 (by decide) ?_
                    refine z_lv [0, 1, 2, 3, 4, 5] rfl ?_
                    exact ih (b + 1) _ _ (by omega) (by rw [allB, ← hf]; simp [c16, c26, c36]) (by rw [anyB, ← hg]; simp [c47, c57, c67])
  refine z_lv [0, 1, 2, 3, 4, 5] rfl ?_
  exact LP 49 0 true false rfl rfl rfl
end CM
