section CI
variable {l : Launch} {D : va_G} {cI cJ cC cZ : ClassId}
set_option maxRecDepth 100000 in
set_option maxHeartbeats 4000000 in
theorem c_N_init (h : Nat) : MC l D vwCl (CT cI cJ cC cZ) y_N_init (wA y_N_init prog_3_method_1_code 1 none) { frames := 1, cells := 1, slots := 16, locals := 12 } [.ref h] [(h, .inr (1, [.null, .int 0]))] (fun q => [(h, .inr (1, [.ref (q 0), .int 0])), (q 0, .inl (cJ, 16, .inr (.inl (fun _ => 0))))]) 1 16 := by
  refine MC.of (cc := prog_3_method_1_code) (nL := 1) (by decide) rfl rfl (Nat.le_of_ble_eq_true rfl) ?_
  intro p e s m below meth c A Q K hin ret
  refine z_lvE (lv' := [(0, .ref h)]) rfl ?_
  refine z_aload_n (pc := 0) K d_N_init_0 rfl ?_
  refine z_objInit (pc := 1) K k23 k16 k17 d_N_init_1 (Nat.le_of_ble_eq_true rfl) (Nat.le_of_ble_eq_true rfl) ?_
  refine z_aload_n (pc := 4) K d_N_init_4 rfl ?_
  refine z_bipush (pc := 5) K (v := 16) d_N_init_5 (by decide) ?_
  refine z_newa (pc := 7) K (a0 := (16, .inr (.inl (fun _ => 0)))) d_N_init_7 k31 rfl (fun _ => by intro e; cases e) 1 rfl (fun _ => rfl) (by decide) (by decide) (by decide) (Nat.le_of_ble_eq_true rfl) (Nat.le_of_ble_eq_true rfl) (fun q0 => ?_)
  refine z_ws (ws' := [(h, .inr (1, [.null, .int 0])), (q0, .inl (cJ, 16, .inr (.inl (fun _ => 0))))]) rfl ?_
  refine z_putF (pc := 9) K (ref := "DemandTerms$Names") (ws' := [(h, .inr (1, [.ref q0, .int 0])), (q0, .inl (cJ, 16, .inr (.inl (fun _ => 0))))]) hin d_N_init_9 hi_N ty_N ty_N_ok nm_N 0 rfl rfl 0 (by decide) k24 rfl rfl rfl rfl rfl rfl (Nat.le_of_ble_eq_true rfl) rfl ?_
  refine z_aload_n (pc := 12) K d_N_init_12 rfl ?_
  refine z_iconst (pc := 13) K (v := 0) d_N_init_13 (by decide) ?_
  refine z_put (pc := 14) K (ref := "DemandTerms$Names") (ws' := [(h, .inr (1, [.ref q0, .int 0])), (q0, .inl (cJ, 16, .inr (.inl (fun _ => 0))))]) d_N_init_14 hi_N ty_N ty_N_ok nm_N 0 rfl rfl 1 (by decide) k25 rfl rfl rfl rfl rfl (Nat.le_of_ble_eq_true rfl) rfl ?_
  exact ret (fun i => [q0].getD i 0) 17 _ d_N_init_17
set_option maxRecDepth 100000 in
set_option maxHeartbeats 4000000 in
theorem c_T_init (h : Nat) : MC l D vwCl (CT cI cJ cC cZ) y_T_init (wA y_T_init prog_6_method_1_code 1 none) { frames := 1, cells := 2, slots := 1200, locals := 12 } [.ref h] [(h, .inr (2, [.null, .null, .int 0]))] (fun q => [(h, .inr (2, [.ref (q 0), .ref (q 1), .int 0])), (q 0, .inl (cI, 600, .inl (fun _ => 0))), (q 1, .inl (cJ, 600, .inr (.inl (fun _ => 0))))]) 2 1200 := by
  refine MC.of (cc := prog_6_method_1_code) (nL := 1) (by decide) rfl rfl (Nat.le_of_ble_eq_true rfl) ?_
  intro p e s m below meth c A Q K hin ret
  refine z_lvE (lv' := [(0, .ref h)]) rfl ?_
  refine z_aload_n (pc := 0) K d_T_init_0 rfl ?_
  refine z_objInit (pc := 1) K k37 k16 k17 d_T_init_1 (Nat.le_of_ble_eq_true rfl) (Nat.le_of_ble_eq_true rfl) ?_
  refine z_aload_n (pc := 4) K d_T_init_4 rfl ?_
  refine z_sipush (pc := 5) K (v := 600) d_T_init_5 (by decide) ?_
  refine z_newa (pc := 8) K (a0 := (600, .inl (fun _ => 0))) d_T_init_8 k48 rfl (fun _ => by intro e; cases e) 0 rfl (fun _ => rfl) (by decide) (by decide) (by decide) (Nat.le_of_ble_eq_true rfl) (Nat.le_of_ble_eq_true rfl) (fun q0 => ?_)
  refine z_ws (ws' := [(h, .inr (2, [.null, .null, .int 0])), (q0, .inl (cI, 600, .inl (fun _ => 0)))]) rfl ?_
  refine z_putF (pc := 10) K (ref := "DemandTerms$TermTable") (ws' := [(h, .inr (2, [.ref q0, .null, .int 0])), (q0, .inl (cI, 600, .inl (fun _ => 0)))]) hin d_T_init_10 hi_T ty_T ty_T_ok nm_T 0 rfl rfl 0 (by decide) k38 rfl rfl rfl rfl rfl rfl (Nat.le_of_ble_eq_true rfl) rfl ?_
  refine z_aload_n (pc := 13) K d_T_init_13 rfl ?_
  refine z_sipush (pc := 14) K (v := 600) d_T_init_14 (by decide) ?_
  refine z_newa (pc := 17) K (a0 := (600, .inr (.inl (fun _ => 0)))) d_T_init_17 k31 rfl (fun _ => by intro e; cases e) 1 rfl (fun _ => rfl) (by decide) (by decide) (by decide) (Nat.le_of_ble_eq_true rfl) (Nat.le_of_ble_eq_true rfl) (fun q1 => ?_)
  refine z_ws (ws' := [(h, .inr (2, [.ref q0, .null, .int 0])), (q0, .inl (cI, 600, .inl (fun _ => 0))), (q1, .inl (cJ, 600, .inr (.inl (fun _ => 0))))]) rfl ?_
  refine z_putF (pc := 19) K (ref := "DemandTerms$TermTable") (ws' := [(h, .inr (2, [.ref q0, .ref q1, .int 0])), (q0, .inl (cI, 600, .inl (fun _ => 0))), (q1, .inl (cJ, 600, .inr (.inl (fun _ => 0))))]) hin d_T_init_19 hi_T ty_T ty_T_ok nm_T 0 rfl rfl 1 (by decide) k39 rfl rfl rfl rfl rfl rfl (Nat.le_of_ble_eq_true rfl) rfl ?_
  refine z_aload_n (pc := 22) K d_T_init_22 rfl ?_
  refine z_iconst (pc := 23) K (v := 0) d_T_init_23 (by decide) ?_
  refine z_put (pc := 24) K (ref := "DemandTerms$TermTable") (ws' := [(h, .inr (2, [.ref q0, .ref q1, .int 0])), (q0, .inl (cI, 600, .inl (fun _ => 0))), (q1, .inl (cJ, 600, .inr (.inl (fun _ => 0))))]) d_T_init_24 hi_T ty_T ty_T_ok nm_T 0 rfl rfl 2 (by decide) k40 rfl rfl rfl rfl rfl (Nat.le_of_ble_eq_true rfl) rfl ?_
  exact ret (fun i => [q0, q1].getD i 0) 27 _ d_T_init_27
set_option maxRecDepth 100000 in
set_option maxHeartbeats 4000000 in
theorem c_R_init (h : Nat) : MC l D vwCl (CT cI cJ cC cZ) y_R_init (wA y_R_init prog_4_method_1_code 1 none) { frames := 1, cells := 5, slots := 2000, locals := 12 } [.ref h] [(h, .inr (3, [.null, .null, .null, .null, .null, .int 0]))] (fun q => [(h, .inr (3, [.ref (q 0), .ref (q 1), .ref (q 2), .ref (q 3), .ref (q 4), .int 0])), (q 0, .inl (cI, 400, .inl (fun _ => 0))), (q 1, .inl (cI, 400, .inl (fun _ => 0))), (q 2, .inl (cI, 400, .inl (fun _ => 0))), (q 3, .inl (cJ, 400, .inr (.inl (fun _ => 0)))), (q 4, .inl (cI, 400, .inl (fun _ => 0)))]) 5 2000 := by
  refine MC.of (cc := prog_4_method_1_code) (nL := 1) (by decide) rfl rfl (Nat.le_of_ble_eq_true rfl) ?_
  intro p e s m below meth c A Q K hin ret
  refine z_lvE (lv' := [(0, .ref h)]) rfl ?_
  refine z_aload_n (pc := 0) K d_R_init_0 rfl ?_
  refine z_objInit (pc := 1) K k54 k16 k17 d_R_init_1 (Nat.le_of_ble_eq_true rfl) (Nat.le_of_ble_eq_true rfl) ?_
  refine z_aload_n (pc := 4) K d_R_init_4 rfl ?_
  refine z_sipush (pc := 5) K (v := 400) d_R_init_5 (by decide) ?_
  refine z_newa (pc := 8) K (a0 := (400, .inl (fun _ => 0))) d_R_init_8 k48 rfl (fun _ => by intro e; cases e) 0 rfl (fun _ => rfl) (by decide) (by decide) (by decide) (Nat.le_of_ble_eq_true rfl) (Nat.le_of_ble_eq_true rfl) (fun q0 => ?_)
  refine z_ws (ws' := [(h, .inr (3, [.null, .null, .null, .null, .null, .int 0])), (q0, .inl (cI, 400, .inl (fun _ => 0)))]) rfl ?_
  refine z_putF (pc := 10) K (ref := "DemandTerms$NeedRows") (ws' := [(h, .inr (3, [.ref q0, .null, .null, .null, .null, .int 0])), (q0, .inl (cI, 400, .inl (fun _ => 0)))]) hin d_R_init_10 hi_R ty_R ty_R_ok nm_R 0 rfl rfl 0 (by decide) k55 rfl rfl rfl rfl rfl rfl (Nat.le_of_ble_eq_true rfl) rfl ?_
  refine z_aload_n (pc := 13) K d_R_init_13 rfl ?_
  refine z_sipush (pc := 14) K (v := 400) d_R_init_14 (by decide) ?_
  refine z_newa (pc := 17) K (a0 := (400, .inl (fun _ => 0))) d_R_init_17 k48 rfl (fun _ => by intro e; cases e) 0 rfl (fun _ => rfl) (by decide) (by decide) (by decide) (Nat.le_of_ble_eq_true rfl) (Nat.le_of_ble_eq_true rfl) (fun q1 => ?_)
  refine z_ws (ws' := [(h, .inr (3, [.ref q0, .null, .null, .null, .null, .int 0])), (q0, .inl (cI, 400, .inl (fun _ => 0))), (q1, .inl (cI, 400, .inl (fun _ => 0)))]) rfl ?_
  refine z_putF (pc := 19) K (ref := "DemandTerms$NeedRows") (ws' := [(h, .inr (3, [.ref q0, .ref q1, .null, .null, .null, .int 0])), (q0, .inl (cI, 400, .inl (fun _ => 0))), (q1, .inl (cI, 400, .inl (fun _ => 0)))]) hin d_R_init_19 hi_R ty_R ty_R_ok nm_R 0 rfl rfl 1 (by decide) k56 rfl rfl rfl rfl rfl rfl (Nat.le_of_ble_eq_true rfl) rfl ?_
  refine z_aload_n (pc := 22) K d_R_init_22 rfl ?_
  refine z_sipush (pc := 23) K (v := 400) d_R_init_23 (by decide) ?_
  refine z_newa (pc := 26) K (a0 := (400, .inl (fun _ => 0))) d_R_init_26 k48 rfl (fun _ => by intro e; cases e) 0 rfl (fun _ => rfl) (by decide) (by decide) (by decide) (Nat.le_of_ble_eq_true rfl) (Nat.le_of_ble_eq_true rfl) (fun q2 => ?_)
  refine z_ws (ws' := [(h, .inr (3, [.ref q0, .ref q1, .null, .null, .null, .int 0])), (q0, .inl (cI, 400, .inl (fun _ => 0))), (q1, .inl (cI, 400, .inl (fun _ => 0))), (q2, .inl (cI, 400, .inl (fun _ => 0)))]) rfl ?_
  refine z_putF (pc := 28) K (ref := "DemandTerms$NeedRows") (ws' := [(h, .inr (3, [.ref q0, .ref q1, .ref q2, .null, .null, .int 0])), (q0, .inl (cI, 400, .inl (fun _ => 0))), (q1, .inl (cI, 400, .inl (fun _ => 0))), (q2, .inl (cI, 400, .inl (fun _ => 0)))]) hin d_R_init_28 hi_R ty_R ty_R_ok nm_R 0 rfl rfl 2 (by decide) k57 rfl rfl rfl rfl rfl rfl (Nat.le_of_ble_eq_true rfl) rfl ?_
  refine z_aload_n (pc := 31) K d_R_init_31 rfl ?_
  refine z_sipush (pc := 32) K (v := 400) d_R_init_32 (by decide) ?_
  refine z_newa (pc := 35) K (a0 := (400, .inr (.inl (fun _ => 0)))) d_R_init_35 k31 rfl (fun _ => by intro e; cases e) 1 rfl (fun _ => rfl) (by decide) (by decide) (by decide) (Nat.le_of_ble_eq_true rfl) (Nat.le_of_ble_eq_true rfl) (fun q3 => ?_)
  refine z_ws (ws' := [(h, .inr (3, [.ref q0, .ref q1, .ref q2, .null, .null, .int 0])), (q0, .inl (cI, 400, .inl (fun _ => 0))), (q1, .inl (cI, 400, .inl (fun _ => 0))), (q2, .inl (cI, 400, .inl (fun _ => 0))), (q3, .inl (cJ, 400, .inr (.inl (fun _ => 0))))]) rfl ?_
  refine z_putF (pc := 37) K (ref := "DemandTerms$NeedRows") (ws' := [(h, .inr (3, [.ref q0, .ref q1, .ref q2, .ref q3, .null, .int 0])), (q0, .inl (cI, 400, .inl (fun _ => 0))), (q1, .inl (cI, 400, .inl (fun _ => 0))), (q2, .inl (cI, 400, .inl (fun _ => 0))), (q3, .inl (cJ, 400, .inr (.inl (fun _ => 0))))]) hin d_R_init_37 hi_R ty_R ty_R_ok nm_R 0 rfl rfl 3 (by decide) k58 rfl rfl rfl rfl rfl rfl (Nat.le_of_ble_eq_true rfl) rfl ?_
  refine z_aload_n (pc := 40) K d_R_init_40 rfl ?_
  refine z_sipush (pc := 41) K (v := 400) d_R_init_41 (by decide) ?_
  refine z_newa (pc := 44) K (a0 := (400, .inl (fun _ => 0))) d_R_init_44 k48 rfl (fun _ => by intro e; cases e) 0 rfl (fun _ => rfl) (by decide) (by decide) (by decide) (Nat.le_of_ble_eq_true rfl) (Nat.le_of_ble_eq_true rfl) (fun q4 => ?_)
  refine z_ws (ws' := [(h, .inr (3, [.ref q0, .ref q1, .ref q2, .ref q3, .null, .int 0])), (q0, .inl (cI, 400, .inl (fun _ => 0))), (q1, .inl (cI, 400, .inl (fun _ => 0))), (q2, .inl (cI, 400, .inl (fun _ => 0))), (q3, .inl (cJ, 400, .inr (.inl (fun _ => 0)))), (q4, .inl (cI, 400, .inl (fun _ => 0)))]) rfl ?_
  refine z_putF (pc := 46) K (ref := "DemandTerms$NeedRows") (ws' := [(h, .inr (3, [.ref q0, .ref q1, .ref q2, .ref q3, .ref q4, .int 0])), (q0, .inl (cI, 400, .inl (fun _ => 0))), (q1, .inl (cI, 400, .inl (fun _ => 0))), (q2, .inl (cI, 400, .inl (fun _ => 0))), (q3, .inl (cJ, 400, .inr (.inl (fun _ => 0)))), (q4, .inl (cI, 400, .inl (fun _ => 0)))]) hin d_R_init_46 hi_R ty_R ty_R_ok nm_R 0 rfl rfl 4 (by decide) k59 rfl rfl rfl rfl rfl rfl (Nat.le_of_ble_eq_true rfl) rfl ?_
  refine z_aload_n (pc := 49) K d_R_init_49 rfl ?_
  refine z_iconst (pc := 50) K (v := 0) d_R_init_50 (by decide) ?_
  refine z_put (pc := 51) K (ref := "DemandTerms$NeedRows") (ws' := [(h, .inr (3, [.ref q0, .ref q1, .ref q2, .ref q3, .ref q4, .int 0])), (q0, .inl (cI, 400, .inl (fun _ => 0))), (q1, .inl (cI, 400, .inl (fun _ => 0))), (q2, .inl (cI, 400, .inl (fun _ => 0))), (q3, .inl (cJ, 400, .inr (.inl (fun _ => 0)))), (q4, .inl (cI, 400, .inl (fun _ => 0)))]) d_R_init_51 hi_R ty_R ty_R_ok nm_R 0 rfl rfl 5 (by decide) k60 rfl rfl rfl rfl rfl (Nat.le_of_ble_eq_true rfl) rfl ?_
  exact ret (fun i => [q0, q1, q2, q3, q4].getD i 0) 54 _ d_R_init_54
set_option maxRecDepth 100000 in
set_option maxHeartbeats 4000000 in
theorem c_C_init (h : Nat) : MC l D vwCl (CT cI cJ cC cZ) y_C_init (wA y_C_init prog_2_method_1_code 1 none) { frames := 1, cells := 4, slots := 5700, locals := 12 } [.ref h] [(h, .inr (4, [.null, .null, .null, .null, .int 0]))] (fun q => [(h, .inr (4, [.ref (q 0), .ref (q 1), .ref (q 2), .ref (q 3), .int 0])), (q 0, .inl (cI, 300, .inl (fun _ => 0))), (q 1, .inl (cJ, 4800, .inr (.inl (fun _ => 0)))), (q 2, .inl (cI, 300, .inl (fun _ => 0))), (q 3, .inl (cJ, 300, .inr (.inl (fun _ => 0))))]) 4 5700 := by
  refine MC.of (cc := prog_2_method_1_code) (nL := 1) (by decide) rfl rfl (Nat.le_of_ble_eq_true rfl) ?_
  intro p e s m below meth c A Q K hin ret
  refine z_lvE (lv' := [(0, .ref h)]) rfl ?_
  refine z_aload_n (pc := 0) K d_C_init_0 rfl ?_
  refine z_objInit (pc := 1) K k79 k16 k17 d_C_init_1 (Nat.le_of_ble_eq_true rfl) (Nat.le_of_ble_eq_true rfl) ?_
  refine z_aload_n (pc := 4) K d_C_init_4 rfl ?_
  refine z_sipush (pc := 5) K (v := 300) d_C_init_5 (by decide) ?_
  refine z_newa (pc := 8) K (a0 := (300, .inl (fun _ => 0))) d_C_init_8 k48 rfl (fun _ => by intro e; cases e) 0 rfl (fun _ => rfl) (by decide) (by decide) (by decide) (Nat.le_of_ble_eq_true rfl) (Nat.le_of_ble_eq_true rfl) (fun q0 => ?_)
  refine z_ws (ws' := [(h, .inr (4, [.null, .null, .null, .null, .int 0])), (q0, .inl (cI, 300, .inl (fun _ => 0)))]) rfl ?_
  refine z_putF (pc := 10) K (ref := "DemandTerms$Clashes") (ws' := [(h, .inr (4, [.ref q0, .null, .null, .null, .int 0])), (q0, .inl (cI, 300, .inl (fun _ => 0)))]) hin d_C_init_10 hi_C ty_C ty_C_ok nm_C 0 rfl rfl 0 (by decide) k80 rfl rfl rfl rfl rfl rfl (Nat.le_of_ble_eq_true rfl) rfl ?_
  refine z_aload_n (pc := 13) K d_C_init_13 rfl ?_
  refine z_sipush (pc := 14) K (v := 4800) d_C_init_14 (by decide) ?_
  refine z_newa (pc := 17) K (a0 := (4800, .inr (.inl (fun _ => 0)))) d_C_init_17 k31 rfl (fun _ => by intro e; cases e) 1 rfl (fun _ => rfl) (by decide) (by decide) (by decide) (Nat.le_of_ble_eq_true rfl) (Nat.le_of_ble_eq_true rfl) (fun q1 => ?_)
  refine z_ws (ws' := [(h, .inr (4, [.ref q0, .null, .null, .null, .int 0])), (q0, .inl (cI, 300, .inl (fun _ => 0))), (q1, .inl (cJ, 4800, .inr (.inl (fun _ => 0))))]) rfl ?_
  refine z_putF (pc := 19) K (ref := "DemandTerms$Clashes") (ws' := [(h, .inr (4, [.ref q0, .ref q1, .null, .null, .int 0])), (q0, .inl (cI, 300, .inl (fun _ => 0))), (q1, .inl (cJ, 4800, .inr (.inl (fun _ => 0))))]) hin d_C_init_19 hi_C ty_C ty_C_ok nm_C 0 rfl rfl 1 (by decide) k81 rfl rfl rfl rfl rfl rfl (Nat.le_of_ble_eq_true rfl) rfl ?_
  refine z_aload_n (pc := 22) K d_C_init_22 rfl ?_
  refine z_sipush (pc := 23) K (v := 300) d_C_init_23 (by decide) ?_
  refine z_newa (pc := 26) K (a0 := (300, .inl (fun _ => 0))) d_C_init_26 k48 rfl (fun _ => by intro e; cases e) 0 rfl (fun _ => rfl) (by decide) (by decide) (by decide) (Nat.le_of_ble_eq_true rfl) (Nat.le_of_ble_eq_true rfl) (fun q2 => ?_)
  refine z_ws (ws' := [(h, .inr (4, [.ref q0, .ref q1, .null, .null, .int 0])), (q0, .inl (cI, 300, .inl (fun _ => 0))), (q1, .inl (cJ, 4800, .inr (.inl (fun _ => 0)))), (q2, .inl (cI, 300, .inl (fun _ => 0)))]) rfl ?_
  refine z_putF (pc := 28) K (ref := "DemandTerms$Clashes") (ws' := [(h, .inr (4, [.ref q0, .ref q1, .ref q2, .null, .int 0])), (q0, .inl (cI, 300, .inl (fun _ => 0))), (q1, .inl (cJ, 4800, .inr (.inl (fun _ => 0)))), (q2, .inl (cI, 300, .inl (fun _ => 0)))]) hin d_C_init_28 hi_C ty_C ty_C_ok nm_C 0 rfl rfl 2 (by decide) k82 rfl rfl rfl rfl rfl rfl (Nat.le_of_ble_eq_true rfl) rfl ?_
  refine z_aload_n (pc := 31) K d_C_init_31 rfl ?_
  refine z_sipush (pc := 32) K (v := 300) d_C_init_32 (by decide) ?_
  refine z_newa (pc := 35) K (a0 := (300, .inr (.inl (fun _ => 0)))) d_C_init_35 k31 rfl (fun _ => by intro e; cases e) 1 rfl (fun _ => rfl) (by decide) (by decide) (by decide) (Nat.le_of_ble_eq_true rfl) (Nat.le_of_ble_eq_true rfl) (fun q3 => ?_)
  refine z_ws (ws' := [(h, .inr (4, [.ref q0, .ref q1, .ref q2, .null, .int 0])), (q0, .inl (cI, 300, .inl (fun _ => 0))), (q1, .inl (cJ, 4800, .inr (.inl (fun _ => 0)))), (q2, .inl (cI, 300, .inl (fun _ => 0))), (q3, .inl (cJ, 300, .inr (.inl (fun _ => 0))))]) rfl ?_
  refine z_putF (pc := 37) K (ref := "DemandTerms$Clashes") (ws' := [(h, .inr (4, [.ref q0, .ref q1, .ref q2, .ref q3, .int 0])), (q0, .inl (cI, 300, .inl (fun _ => 0))), (q1, .inl (cJ, 4800, .inr (.inl (fun _ => 0)))), (q2, .inl (cI, 300, .inl (fun _ => 0))), (q3, .inl (cJ, 300, .inr (.inl (fun _ => 0))))]) hin d_C_init_37 hi_C ty_C ty_C_ok nm_C 0 rfl rfl 3 (by decide) k83 rfl rfl rfl rfl rfl rfl (Nat.le_of_ble_eq_true rfl) rfl ?_
  refine z_aload_n (pc := 40) K d_C_init_40 rfl ?_
  refine z_iconst (pc := 41) K (v := 0) d_C_init_41 (by decide) ?_
  refine z_put (pc := 42) K (ref := "DemandTerms$Clashes") (ws' := [(h, .inr (4, [.ref q0, .ref q1, .ref q2, .ref q3, .int 0])), (q0, .inl (cI, 300, .inl (fun _ => 0))), (q1, .inl (cJ, 4800, .inr (.inl (fun _ => 0)))), (q2, .inl (cI, 300, .inl (fun _ => 0))), (q3, .inl (cJ, 300, .inr (.inl (fun _ => 0))))]) d_C_init_42 hi_C ty_C ty_C_ok nm_C 0 rfl rfl 4 (by decide) k84 rfl rfl rfl rfl rfl (Nat.le_of_ble_eq_true rfl) rfl ?_
  exact ret (fun i => [q0, q1, q2, q3].getD i 0) 45 _ d_C_init_45
set_option maxRecDepth 100000 in
set_option maxHeartbeats 4000000 in
theorem c_G_init (h : Nat) : MC l D vwCl (CT cI cJ cC cZ) y_G_init (wA y_G_init prog_5_method_1_code 1 none) { frames := 1, cells := 1, slots := 1648, locals := 12 } [.ref h] [(h, .inr (5, [.null, .int 0]))] (fun q => [(h, .inr (5, [.ref (q 0), .int 0])), (q 0, .inl (cC, 1648, .inl (fun _ => 0)))]) 1 1648 := by
  refine MC.of (cc := prog_5_method_1_code) (nL := 1) (by decide) rfl rfl (Nat.le_of_ble_eq_true rfl) ?_
  intro p e s m below meth c A Q K hin ret
  refine z_lvE (lv' := [(0, .ref h)]) rfl ?_
  refine z_aload_n (pc := 0) K d_G_init_0 rfl ?_
  refine z_objInit (pc := 1) K k101 k16 k17 d_G_init_1 (Nat.le_of_ble_eq_true rfl) (Nat.le_of_ble_eq_true rfl) ?_
  refine z_aload_n (pc := 4) K d_G_init_4 rfl ?_
  refine z_sipush (pc := 5) K (v := 1648) d_G_init_5 (by decide) ?_
  refine z_newa (pc := 8) K (a0 := (1648, .inl (fun _ => 0))) d_G_init_8 k109 rfl (fun _ => by intro e; cases e) 2 rfl (fun _ => rfl) (by decide) (by decide) (by decide) (Nat.le_of_ble_eq_true rfl) (Nat.le_of_ble_eq_true rfl) (fun q0 => ?_)
  refine z_ws (ws' := [(h, .inr (5, [.null, .int 0])), (q0, .inl (cC, 1648, .inl (fun _ => 0)))]) rfl ?_
  refine z_putF (pc := 10) K (ref := "DemandTerms$Page") (ws' := [(h, .inr (5, [.ref q0, .int 0])), (q0, .inl (cC, 1648, .inl (fun _ => 0)))]) hin d_G_init_10 hi_G ty_G ty_G_ok nm_G 0 rfl rfl 0 (by decide) k102 rfl rfl rfl rfl rfl rfl (Nat.le_of_ble_eq_true rfl) rfl ?_
  refine z_aload_n (pc := 13) K d_G_init_13 rfl ?_
  refine z_iconst (pc := 14) K (v := 0) d_G_init_14 (by decide) ?_
  refine z_put (pc := 15) K (ref := "DemandTerms$Page") (ws' := [(h, .inr (5, [.ref q0, .int 0])), (q0, .inl (cC, 1648, .inl (fun _ => 0)))]) d_G_init_15 hi_G ty_G ty_G_ok nm_G 0 rfl rfl 1 (by decide) k103 rfl rfl rfl rfl rfl (Nat.le_of_ble_eq_true rfl) rfl ?_
  exact ret (fun i => [q0].getD i 0) 18 _ d_G_init_18
set_option maxRecDepth 100000 in
set_option maxHeartbeats 4000000 in
theorem c_D_init (h : Nat) : MC l D vwCl (CT cI cJ cC cZ) y_D_init (wA y_D_init prog_1_method_1_code 1 none) { frames := 2, cells := 19, slots := 10598, locals := 32 } [.ref h] [(h, .inr (0, [.null, .null, .null, .null, .null, .null]))] (fun q => CW (zc h q) cI cJ cC u0) 19 10598 := by
  refine MC.of (cc := prog_1_method_1_code) (nL := 1) (by decide) rfl rfl (Nat.le_of_ble_eq_true rfl) ?_
  intro p e s m below meth c A Q K hin ret
  refine z_lvE (lv' := [(0, .ref h)]) rfl ?_
  refine z_aload_n (pc := 0) K d_D_init_0 rfl ?_
  refine z_objInit (pc := 1) K k15 k16 k17 d_D_init_1 (Nat.le_of_ble_eq_true rfl) (Nat.le_of_ble_eq_true rfl) ?_
  refine z_aload_n (pc := 4) K d_D_init_4 rfl ?_
  refine z_new (pc := 5) K (ci := 1) (fs := [.null, .int 0]) d_D_init_5 hi_N ty_N ty_N_ok k18 k19 k2 rfl (fun j hj => by rcases (show j = 0 ∨ j = 1 by omega) with rfl | rfl <;> rfl) (Nat.le_of_ble_eq_true rfl) (Nat.le_of_ble_eq_true rfl) (fun o5 => ?_)
  refine z_ws (ws' := [(h, .inr (0, [.null, .null, .null, .null, .null, .null]))] ++ [(o5, .inr (1, [.null, .int 0]))]) rfl ?_
  refine z_dup (pc := 8) K d_D_init_8 rfl ?_
  refine z_fIN (pc := 9) K (c_N_init o5) ⟨cwNB K 0 (own := "DemandTerms") (index := 11) (host := "DemandTerms") (by decide +kernel) k2 k22 q_N_init.2 ⟨Nat.le_of_ble_eq_true rfl, Nat.le_of_ble_eq_true rfl⟩, rfl, K.1.2.2.2.2 _ k21⟩ d_D_init_9 rfl rfl (Nat.le_of_ble_eq_true rfl) ⟨Nat.le_of_ble_eq_true rfl, Nat.le_of_ble_eq_true rfl⟩ (fun p9 => ?_)
  refine z_ws (ws' := [(h, .inr (0, [.null, .null, .null, .null, .null, .null])), (o5, .inr (1, [.ref (p9 0), .int 0])), (p9 0, .inl (cJ, 16, .inr (.inl (fun _ => 0))))]) rfl ?_
  refine z_putF (pc := 12) K (ref := "DemandTerms") (ws' := [(h, .inr (0, [.ref o5, .null, .null, .null, .null, .null])), (o5, .inr (1, [.ref (p9 0), .int 0])), (p9 0, .inl (cJ, 16, .inr (.inl (fun _ => 0))))]) hin d_D_init_12 hi_D ty_D ty_D_ok nm_D 0 rfl rfl 0 (by decide) k110 rfl rfl rfl rfl rfl rfl (Nat.le_of_ble_eq_true rfl) rfl ?_
  refine z_aload_n (pc := 15) K d_D_init_15 rfl ?_
  refine z_new (pc := 16) K (ci := 2) (fs := [.null, .null, .int 0]) d_D_init_16 hi_T ty_T ty_T_ok k32 k33 k3 rfl (fun j hj => by rcases (show j = 0 ∨ j = 1 ∨ j = 2 by omega) with rfl | rfl | rfl <;> rfl) (Nat.le_of_ble_eq_true rfl) (Nat.le_of_ble_eq_true rfl) (fun o16 => ?_)
  refine z_ws (ws' := [(h, .inr (0, [.ref o5, .null, .null, .null, .null, .null])), (o5, .inr (1, [.ref (p9 0), .int 0])), (p9 0, .inl (cJ, 16, .inr (.inl (fun _ => 0))))] ++ [(o16, .inr (2, [.null, .null, .int 0]))]) rfl ?_
  refine z_dup (pc := 19) K d_D_init_19 rfl ?_
  refine z_fIN (pc := 20) K (c_T_init o16) ⟨cwNB K 0 (own := "DemandTerms") (index := 18) (host := "DemandTerms") (by decide +kernel) k3 k36 q_T_init.2 ⟨Nat.le_of_ble_eq_true rfl, Nat.le_of_ble_eq_true rfl⟩, rfl, K.1.2.2.2.2 _ k35⟩ d_D_init_20 rfl rfl (Nat.le_of_ble_eq_true rfl) ⟨Nat.le_of_ble_eq_true rfl, Nat.le_of_ble_eq_true rfl⟩ (fun p20 => ?_)
  refine z_ws (ws' := [(h, .inr (0, [.ref o5, .null, .null, .null, .null, .null])), (o5, .inr (1, [.ref (p9 0), .int 0])), (p9 0, .inl (cJ, 16, .inr (.inl (fun _ => 0)))), (o16, .inr (2, [.ref (p20 0), .ref (p20 1), .int 0])), (p20 0, .inl (cI, 600, .inl (fun _ => 0))), (p20 1, .inl (cJ, 600, .inr (.inl (fun _ => 0))))]) rfl ?_
  refine z_putF (pc := 23) K (ref := "DemandTerms") (ws' := [(h, .inr (0, [.ref o5, .ref o16, .null, .null, .null, .null])), (o5, .inr (1, [.ref (p9 0), .int 0])), (p9 0, .inl (cJ, 16, .inr (.inl (fun _ => 0)))), (o16, .inr (2, [.ref (p20 0), .ref (p20 1), .int 0])), (p20 0, .inl (cI, 600, .inl (fun _ => 0))), (p20 1, .inl (cJ, 600, .inr (.inl (fun _ => 0))))]) hin d_D_init_23 hi_D ty_D ty_D_ok nm_D 0 rfl rfl 1 (by decide) k111 rfl rfl rfl rfl rfl rfl (Nat.le_of_ble_eq_true rfl) rfl ?_
  refine z_aload_n (pc := 26) K d_D_init_26 rfl ?_
  refine z_new (pc := 27) K (ci := 3) (fs := [.null, .null, .null, .null, .null, .int 0]) d_D_init_27 hi_R ty_R ty_R_ok k49 k50 k4 rfl (fun j hj => by rcases (show j = 0 ∨ j = 1 ∨ j = 2 ∨ j = 3 ∨ j = 4 ∨ j = 5 by omega) with rfl | rfl | rfl | rfl | rfl | rfl <;> rfl) (Nat.le_of_ble_eq_true rfl) (Nat.le_of_ble_eq_true rfl) (fun o27 => ?_)
  refine z_ws (ws' := [(h, .inr (0, [.ref o5, .ref o16, .null, .null, .null, .null])), (o5, .inr (1, [.ref (p9 0), .int 0])), (p9 0, .inl (cJ, 16, .inr (.inl (fun _ => 0)))), (o16, .inr (2, [.ref (p20 0), .ref (p20 1), .int 0])), (p20 0, .inl (cI, 600, .inl (fun _ => 0))), (p20 1, .inl (cJ, 600, .inr (.inl (fun _ => 0))))] ++ [(o27, .inr (3, [.null, .null, .null, .null, .null, .int 0]))]) rfl ?_
  refine z_dup (pc := 30) K d_D_init_30 rfl ?_
  refine z_fIN (pc := 31) K (c_R_init o27) ⟨cwNB K 0 (own := "DemandTerms") (index := 25) (host := "DemandTerms") (by decide +kernel) k4 k53 q_R_init.2 ⟨Nat.le_of_ble_eq_true rfl, Nat.le_of_ble_eq_true rfl⟩, rfl, K.1.2.2.2.2 _ k52⟩ d_D_init_31 rfl rfl (Nat.le_of_ble_eq_true rfl) ⟨Nat.le_of_ble_eq_true rfl, Nat.le_of_ble_eq_true rfl⟩ (fun p31 => ?_)
  refine z_ws (ws' := [(h, .inr (0, [.ref o5, .ref o16, .null, .null, .null, .null])), (o5, .inr (1, [.ref (p9 0), .int 0])), (p9 0, .inl (cJ, 16, .inr (.inl (fun _ => 0)))), (o16, .inr (2, [.ref (p20 0), .ref (p20 1), .int 0])), (p20 0, .inl (cI, 600, .inl (fun _ => 0))), (p20 1, .inl (cJ, 600, .inr (.inl (fun _ => 0)))), (o27, .inr (3, [.ref (p31 0), .ref (p31 1), .ref (p31 2), .ref (p31 3), .ref (p31 4), .int 0])), (p31 0, .inl (cI, 400, .inl (fun _ => 0))), (p31 1, .inl (cI, 400, .inl (fun _ => 0))), (p31 2, .inl (cI, 400, .inl (fun _ => 0))), (p31 3, .inl (cJ, 400, .inr (.inl (fun _ => 0)))), (p31 4, .inl (cI, 400, .inl (fun _ => 0)))]) rfl ?_
  refine z_putF (pc := 34) K (ref := "DemandTerms") (ws' := [(h, .inr (0, [.ref o5, .ref o16, .ref o27, .null, .null, .null])), (o5, .inr (1, [.ref (p9 0), .int 0])), (p9 0, .inl (cJ, 16, .inr (.inl (fun _ => 0)))), (o16, .inr (2, [.ref (p20 0), .ref (p20 1), .int 0])), (p20 0, .inl (cI, 600, .inl (fun _ => 0))), (p20 1, .inl (cJ, 600, .inr (.inl (fun _ => 0)))), (o27, .inr (3, [.ref (p31 0), .ref (p31 1), .ref (p31 2), .ref (p31 3), .ref (p31 4), .int 0])), (p31 0, .inl (cI, 400, .inl (fun _ => 0))), (p31 1, .inl (cI, 400, .inl (fun _ => 0))), (p31 2, .inl (cI, 400, .inl (fun _ => 0))), (p31 3, .inl (cJ, 400, .inr (.inl (fun _ => 0)))), (p31 4, .inl (cI, 400, .inl (fun _ => 0)))]) hin d_D_init_34 hi_D ty_D ty_D_ok nm_D 0 rfl rfl 2 (by decide) k112 rfl rfl rfl rfl rfl rfl (Nat.le_of_ble_eq_true rfl) rfl ?_
  refine z_aload_n (pc := 37) K d_D_init_37 rfl ?_
  refine z_new (pc := 38) K (ci := 4) (fs := [.null, .null, .null, .null, .int 0]) d_D_init_38 hi_C ty_C ty_C_ok k74 k75 k5 rfl (fun j hj => by rcases (show j = 0 ∨ j = 1 ∨ j = 2 ∨ j = 3 ∨ j = 4 by omega) with rfl | rfl | rfl | rfl | rfl <;> rfl) (Nat.le_of_ble_eq_true rfl) (Nat.le_of_ble_eq_true rfl) (fun o38 => ?_)
  refine z_ws (ws' := [(h, .inr (0, [.ref o5, .ref o16, .ref o27, .null, .null, .null])), (o5, .inr (1, [.ref (p9 0), .int 0])), (p9 0, .inl (cJ, 16, .inr (.inl (fun _ => 0)))), (o16, .inr (2, [.ref (p20 0), .ref (p20 1), .int 0])), (p20 0, .inl (cI, 600, .inl (fun _ => 0))), (p20 1, .inl (cJ, 600, .inr (.inl (fun _ => 0)))), (o27, .inr (3, [.ref (p31 0), .ref (p31 1), .ref (p31 2), .ref (p31 3), .ref (p31 4), .int 0])), (p31 0, .inl (cI, 400, .inl (fun _ => 0))), (p31 1, .inl (cI, 400, .inl (fun _ => 0))), (p31 2, .inl (cI, 400, .inl (fun _ => 0))), (p31 3, .inl (cJ, 400, .inr (.inl (fun _ => 0)))), (p31 4, .inl (cI, 400, .inl (fun _ => 0)))] ++ [(o38, .inr (4, [.null, .null, .null, .null, .int 0]))]) rfl ?_
  refine z_dup (pc := 41) K d_D_init_41 rfl ?_
  refine z_fIN (pc := 42) K (c_C_init o38) ⟨cwNB K 0 (own := "DemandTerms") (index := 32) (host := "DemandTerms") (by decide +kernel) k5 k78 q_C_init.2 ⟨Nat.le_of_ble_eq_true rfl, Nat.le_of_ble_eq_true rfl⟩, rfl, K.1.2.2.2.2 _ k77⟩ d_D_init_42 rfl rfl (Nat.le_of_ble_eq_true rfl) ⟨Nat.le_of_ble_eq_true rfl, Nat.le_of_ble_eq_true rfl⟩ (fun p42 => ?_)
  refine z_ws (ws' := [(h, .inr (0, [.ref o5, .ref o16, .ref o27, .null, .null, .null])), (o5, .inr (1, [.ref (p9 0), .int 0])), (p9 0, .inl (cJ, 16, .inr (.inl (fun _ => 0)))), (o16, .inr (2, [.ref (p20 0), .ref (p20 1), .int 0])), (p20 0, .inl (cI, 600, .inl (fun _ => 0))), (p20 1, .inl (cJ, 600, .inr (.inl (fun _ => 0)))), (o27, .inr (3, [.ref (p31 0), .ref (p31 1), .ref (p31 2), .ref (p31 3), .ref (p31 4), .int 0])), (p31 0, .inl (cI, 400, .inl (fun _ => 0))), (p31 1, .inl (cI, 400, .inl (fun _ => 0))), (p31 2, .inl (cI, 400, .inl (fun _ => 0))), (p31 3, .inl (cJ, 400, .inr (.inl (fun _ => 0)))), (p31 4, .inl (cI, 400, .inl (fun _ => 0))), (o38, .inr (4, [.ref (p42 0), .ref (p42 1), .ref (p42 2), .ref (p42 3), .int 0])), (p42 0, .inl (cI, 300, .inl (fun _ => 0))), (p42 1, .inl (cJ, 4800, .inr (.inl (fun _ => 0)))), (p42 2, .inl (cI, 300, .inl (fun _ => 0))), (p42 3, .inl (cJ, 300, .inr (.inl (fun _ => 0))))]) rfl ?_
  refine z_putF (pc := 45) K (ref := "DemandTerms") (ws' := [(h, .inr (0, [.ref o5, .ref o16, .ref o27, .ref o38, .null, .null])), (o5, .inr (1, [.ref (p9 0), .int 0])), (p9 0, .inl (cJ, 16, .inr (.inl (fun _ => 0)))), (o16, .inr (2, [.ref (p20 0), .ref (p20 1), .int 0])), (p20 0, .inl (cI, 600, .inl (fun _ => 0))), (p20 1, .inl (cJ, 600, .inr (.inl (fun _ => 0)))), (o27, .inr (3, [.ref (p31 0), .ref (p31 1), .ref (p31 2), .ref (p31 3), .ref (p31 4), .int 0])), (p31 0, .inl (cI, 400, .inl (fun _ => 0))), (p31 1, .inl (cI, 400, .inl (fun _ => 0))), (p31 2, .inl (cI, 400, .inl (fun _ => 0))), (p31 3, .inl (cJ, 400, .inr (.inl (fun _ => 0)))), (p31 4, .inl (cI, 400, .inl (fun _ => 0))), (o38, .inr (4, [.ref (p42 0), .ref (p42 1), .ref (p42 2), .ref (p42 3), .int 0])), (p42 0, .inl (cI, 300, .inl (fun _ => 0))), (p42 1, .inl (cJ, 4800, .inr (.inl (fun _ => 0)))), (p42 2, .inl (cI, 300, .inl (fun _ => 0))), (p42 3, .inl (cJ, 300, .inr (.inl (fun _ => 0))))]) hin d_D_init_45 hi_D ty_D ty_D_ok nm_D 0 rfl rfl 3 (by decide) k113 rfl rfl rfl rfl rfl rfl (Nat.le_of_ble_eq_true rfl) rfl ?_
  refine z_aload_n (pc := 48) K d_D_init_48 rfl ?_
  refine z_bipush (pc := 49) K (v := 16) d_D_init_49 (by decide) ?_
  refine z_newa (pc := 51) K (a0 := (16, .inr (.inl (fun _ => 0)))) d_D_init_51 k31 rfl (fun _ => by intro e; cases e) 1 rfl (fun _ => rfl) (by decide) (by decide) (by decide) (Nat.le_of_ble_eq_true rfl) (Nat.le_of_ble_eq_true rfl) (fun o51 => ?_)
  refine z_ws (ws' := [(h, .inr (0, [.ref o5, .ref o16, .ref o27, .ref o38, .null, .null])), (o5, .inr (1, [.ref (p9 0), .int 0])), (p9 0, .inl (cJ, 16, .inr (.inl (fun _ => 0)))), (o16, .inr (2, [.ref (p20 0), .ref (p20 1), .int 0])), (p20 0, .inl (cI, 600, .inl (fun _ => 0))), (p20 1, .inl (cJ, 600, .inr (.inl (fun _ => 0)))), (o27, .inr (3, [.ref (p31 0), .ref (p31 1), .ref (p31 2), .ref (p31 3), .ref (p31 4), .int 0])), (p31 0, .inl (cI, 400, .inl (fun _ => 0))), (p31 1, .inl (cI, 400, .inl (fun _ => 0))), (p31 2, .inl (cI, 400, .inl (fun _ => 0))), (p31 3, .inl (cJ, 400, .inr (.inl (fun _ => 0)))), (p31 4, .inl (cI, 400, .inl (fun _ => 0))), (o38, .inr (4, [.ref (p42 0), .ref (p42 1), .ref (p42 2), .ref (p42 3), .int 0])), (p42 0, .inl (cI, 300, .inl (fun _ => 0))), (p42 1, .inl (cJ, 4800, .inr (.inl (fun _ => 0)))), (p42 2, .inl (cI, 300, .inl (fun _ => 0))), (p42 3, .inl (cJ, 300, .inr (.inl (fun _ => 0)))), (o51, .inl (cJ, 16, .inr (.inl (fun _ => 0))))]) rfl ?_
  refine z_putF (pc := 53) K (ref := "DemandTerms") (ws' := [(h, .inr (0, [.ref o5, .ref o16, .ref o27, .ref o38, .ref o51, .null])), (o5, .inr (1, [.ref (p9 0), .int 0])), (p9 0, .inl (cJ, 16, .inr (.inl (fun _ => 0)))), (o16, .inr (2, [.ref (p20 0), .ref (p20 1), .int 0])), (p20 0, .inl (cI, 600, .inl (fun _ => 0))), (p20 1, .inl (cJ, 600, .inr (.inl (fun _ => 0)))), (o27, .inr (3, [.ref (p31 0), .ref (p31 1), .ref (p31 2), .ref (p31 3), .ref (p31 4), .int 0])), (p31 0, .inl (cI, 400, .inl (fun _ => 0))), (p31 1, .inl (cI, 400, .inl (fun _ => 0))), (p31 2, .inl (cI, 400, .inl (fun _ => 0))), (p31 3, .inl (cJ, 400, .inr (.inl (fun _ => 0)))), (p31 4, .inl (cI, 400, .inl (fun _ => 0))), (o38, .inr (4, [.ref (p42 0), .ref (p42 1), .ref (p42 2), .ref (p42 3), .int 0])), (p42 0, .inl (cI, 300, .inl (fun _ => 0))), (p42 1, .inl (cJ, 4800, .inr (.inl (fun _ => 0)))), (p42 2, .inl (cI, 300, .inl (fun _ => 0))), (p42 3, .inl (cJ, 300, .inr (.inl (fun _ => 0)))), (o51, .inl (cJ, 16, .inr (.inl (fun _ => 0))))]) hin d_D_init_53 hi_D ty_D ty_D_ok nm_D 0 rfl rfl 4 (by decide) k114 rfl rfl rfl rfl rfl rfl (Nat.le_of_ble_eq_true rfl) rfl ?_
  refine z_aload_n (pc := 56) K d_D_init_56 rfl ?_
  refine z_new (pc := 57) K (ci := 5) (fs := [.null, .int 0]) d_D_init_57 hi_G ty_G ty_G_ok k96 k97 k6 rfl (fun j hj => by rcases (show j = 0 ∨ j = 1 by omega) with rfl | rfl <;> rfl) (Nat.le_of_ble_eq_true rfl) (Nat.le_of_ble_eq_true rfl) (fun o57 => ?_)
  refine z_ws (ws' := [(h, .inr (0, [.ref o5, .ref o16, .ref o27, .ref o38, .ref o51, .null])), (o5, .inr (1, [.ref (p9 0), .int 0])), (p9 0, .inl (cJ, 16, .inr (.inl (fun _ => 0)))), (o16, .inr (2, [.ref (p20 0), .ref (p20 1), .int 0])), (p20 0, .inl (cI, 600, .inl (fun _ => 0))), (p20 1, .inl (cJ, 600, .inr (.inl (fun _ => 0)))), (o27, .inr (3, [.ref (p31 0), .ref (p31 1), .ref (p31 2), .ref (p31 3), .ref (p31 4), .int 0])), (p31 0, .inl (cI, 400, .inl (fun _ => 0))), (p31 1, .inl (cI, 400, .inl (fun _ => 0))), (p31 2, .inl (cI, 400, .inl (fun _ => 0))), (p31 3, .inl (cJ, 400, .inr (.inl (fun _ => 0)))), (p31 4, .inl (cI, 400, .inl (fun _ => 0))), (o38, .inr (4, [.ref (p42 0), .ref (p42 1), .ref (p42 2), .ref (p42 3), .int 0])), (p42 0, .inl (cI, 300, .inl (fun _ => 0))), (p42 1, .inl (cJ, 4800, .inr (.inl (fun _ => 0)))), (p42 2, .inl (cI, 300, .inl (fun _ => 0))), (p42 3, .inl (cJ, 300, .inr (.inl (fun _ => 0)))), (o51, .inl (cJ, 16, .inr (.inl (fun _ => 0))))] ++ [(o57, .inr (5, [.null, .int 0]))]) rfl ?_
  refine z_dup (pc := 60) K d_D_init_60 rfl ?_
  refine z_fIN (pc := 61) K (c_G_init o57) ⟨cwNB K 0 (own := "DemandTerms") (index := 43) (host := "DemandTerms") (by decide +kernel) k6 k100 q_G_init.2 ⟨Nat.le_of_ble_eq_true rfl, Nat.le_of_ble_eq_true rfl⟩, rfl, K.1.2.2.2.2 _ k99⟩ d_D_init_61 rfl rfl (Nat.le_of_ble_eq_true rfl) ⟨Nat.le_of_ble_eq_true rfl, Nat.le_of_ble_eq_true rfl⟩ (fun p61 => ?_)
  refine z_ws (ws' := [(h, .inr (0, [.ref o5, .ref o16, .ref o27, .ref o38, .ref o51, .null])), (o5, .inr (1, [.ref (p9 0), .int 0])), (p9 0, .inl (cJ, 16, .inr (.inl (fun _ => 0)))), (o16, .inr (2, [.ref (p20 0), .ref (p20 1), .int 0])), (p20 0, .inl (cI, 600, .inl (fun _ => 0))), (p20 1, .inl (cJ, 600, .inr (.inl (fun _ => 0)))), (o27, .inr (3, [.ref (p31 0), .ref (p31 1), .ref (p31 2), .ref (p31 3), .ref (p31 4), .int 0])), (p31 0, .inl (cI, 400, .inl (fun _ => 0))), (p31 1, .inl (cI, 400, .inl (fun _ => 0))), (p31 2, .inl (cI, 400, .inl (fun _ => 0))), (p31 3, .inl (cJ, 400, .inr (.inl (fun _ => 0)))), (p31 4, .inl (cI, 400, .inl (fun _ => 0))), (o38, .inr (4, [.ref (p42 0), .ref (p42 1), .ref (p42 2), .ref (p42 3), .int 0])), (p42 0, .inl (cI, 300, .inl (fun _ => 0))), (p42 1, .inl (cJ, 4800, .inr (.inl (fun _ => 0)))), (p42 2, .inl (cI, 300, .inl (fun _ => 0))), (p42 3, .inl (cJ, 300, .inr (.inl (fun _ => 0)))), (o51, .inl (cJ, 16, .inr (.inl (fun _ => 0)))), (o57, .inr (5, [.ref (p61 0), .int 0])), (p61 0, .inl (cC, 1648, .inl (fun _ => 0)))]) rfl ?_
  refine z_putF (pc := 64) K (ref := "DemandTerms") (ws' := [(h, .inr (0, [.ref o5, .ref o16, .ref o27, .ref o38, .ref o51, .ref o57])), (o5, .inr (1, [.ref (p9 0), .int 0])), (p9 0, .inl (cJ, 16, .inr (.inl (fun _ => 0)))), (o16, .inr (2, [.ref (p20 0), .ref (p20 1), .int 0])), (p20 0, .inl (cI, 600, .inl (fun _ => 0))), (p20 1, .inl (cJ, 600, .inr (.inl (fun _ => 0)))), (o27, .inr (3, [.ref (p31 0), .ref (p31 1), .ref (p31 2), .ref (p31 3), .ref (p31 4), .int 0])), (p31 0, .inl (cI, 400, .inl (fun _ => 0))), (p31 1, .inl (cI, 400, .inl (fun _ => 0))), (p31 2, .inl (cI, 400, .inl (fun _ => 0))), (p31 3, .inl (cJ, 400, .inr (.inl (fun _ => 0)))), (p31 4, .inl (cI, 400, .inl (fun _ => 0))), (o38, .inr (4, [.ref (p42 0), .ref (p42 1), .ref (p42 2), .ref (p42 3), .int 0])), (p42 0, .inl (cI, 300, .inl (fun _ => 0))), (p42 1, .inl (cJ, 4800, .inr (.inl (fun _ => 0)))), (p42 2, .inl (cI, 300, .inl (fun _ => 0))), (p42 3, .inl (cJ, 300, .inr (.inl (fun _ => 0)))), (o51, .inl (cJ, 16, .inr (.inl (fun _ => 0)))), (o57, .inr (5, [.ref (p61 0), .int 0])), (p61 0, .inl (cC, 1648, .inl (fun _ => 0)))]) hin d_D_init_64 hi_D ty_D ty_D_ok nm_D 0 rfl rfl 5 (by decide) k115 rfl rfl rfl rfl rfl rfl (Nat.le_of_ble_eq_true rfl) rfl ?_
  exact ret (fun i => [o5, p9 0, o16, p20 0, p20 1, o27, p31 0, p31 1, p31 2, p31 3, p31 4, o38, p42 0, p42 1, p42 2, p42 3, o51, o57, p61 0].getD i 0) 67 _ d_D_init_67
end CI
