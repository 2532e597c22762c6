set_option maxRecDepth 100000 in
set_option maxHeartbeats 4000000 in
theorem law_loop {p : Program} {l : Launch} {e : Env} {s : State} {m : MethodId} {below : List Frame} {meth : Method} {c : Code} {D : va_G} {a a2 : Nat → Nat} {cI cJ cC cZ : ClassId} {b L : Nat} {xs : Nat → Int32} (Rel : US → MS → Prop) (h_ok : H_ok Rel) (h_versions : H_versions Rel) (h_term : H_term Rel) (h_both : H_both Rel) (h_relate : H_relate Rel) (h_about : H_about Rel) (h_set : H_set Rel) (h_needs : H_needs Rel) (h_derive : H_derive Rel) (h_bar : H_bar Rel) (h_learn : H_learn Rel) (h_count : H_count Rel) (h_terms : H_terms Rel) (h_part : H_part Rel) (h_partSet : H_partSet Rel) (h_choose : H_choose Rel) (h_forget : H_forget Rel) (h_state : H_state Rel) (h_forced : H_forced Rel) (h_spread : H_spread Rel) (h_chosen : H_chosen Rel) (h_chosenSet : H_chosenSet Rel) (h_print : H_print Rel) (h_at : H_at Rel) (K : Cx p s m #[Value.ref b] c code 4 "DemandTermsLaw" AW D vwCl (CT cI cJ cC cZ) (fun q : Nat => s.heap.size ≤ q)) (X : va_X b L xs s s.heap ∧ b < s.heap.size ∧ ¬ (fun q : Nat => s.heap.size ≤ q) b) (hL : L ≤ 3584) (hr : meth.sig.returnType = ret) (hlocks : meth.locks = false) :
    ∀ (n i : Nat), i ≤ L → L ≤ i + 7 * n + 6 → ∀ (u : US) (v : MS), Rel u v → zW p l e room_1 s m #[Value.ref b] below meth c D vwCl (fun q : Nat => s.heap.size ≤ q) 4 37 293742 (lw_Z below #[Value.ref b] s) (CW a cI cJ cC u ++ MW a2 cI cJ cZ v) 18 [(3, .int (nI i)), (0, .ref b), (1, .ref (a 0)), (2, .ref (a2 0))] [] := by
  have hend : ∀ (w : va_W) (lv : List (Nat × Value)), zW p l e room_1 s m #[Value.ref b] below meth c D vwCl (fun q : Nat => s.heap.size ≤ q) 4 37 293742 (lw_Z below #[Value.ref b] s) w 976 lv [] := by
    intro w lv
    refine z_iconst (pc := 976) K (v := 1) d_L_law_976 (by decide) ?_
    intro H locs ls hP hD hS h
    refine va_forget (fun q hq => hS.2.2 q hq) ?_
    refine W.widen (k := 600000) (n := 7302250) (by decide) (by decide) ?_
    exact lw_ret K.1.1 K.1.2.1 hr hlocks d_L_law_977
  intro n
  induction n with
  | zero =>
    intro i h1 h2 u v hR
    refine z_iload_n (pc := 18) K d_L_law_18 rfl ?_
    refine z_aload_n (pc := 19) K d_L_law_19 rfl ?_
    refine z_slen (pc := 20) K X d_L_law_20 ?_
    refine z_bipush (pc := 21) K (v := 7) d_L_law_21 (by decide) ?_
    refine z_isub (pc := 23) K d_L_law_23 ?_
    refine z_icmp_gt (pc := 24) K (tgt := 976) d_L_law_24 (by decide) (fun c24 => ?_) (fun c24 => ?_)
    · exact hend _ _
    · exact absurd ((ofN_sub hL (by omega)).mpr (by omega)) c24
  | succ n ih =>
    intro i h1 h2 u v hR
    refine z_iload_n (pc := 18) K d_L_law_18 rfl ?_
    refine z_aload_n (pc := 19) K d_L_law_19 rfl ?_
    refine z_slen (pc := 20) K X d_L_law_20 ?_
    refine z_bipush (pc := 21) K (v := 7) d_L_law_21 (by decide) ?_
    refine z_isub (pc := 23) K d_L_law_23 ?_
    refine z_icmp_gt (pc := 24) K (tgt := 976) d_L_law_24 (by decide) (fun c24 => ?_) (fun c24 => ?_)
    · exact hend _ _
    · have hi : i + 7 ≤ L := Nat.le_of_not_lt (fun q => c24 ((ofN_sub hL (by omega)).mpr q))
      have kk : ∀ (u' : US) (v' : MS), Rel u' v' → zW p l e room_1 s m #[Value.ref b] below meth c D vwCl (fun q : Nat => s.heap.size ≤ q) 4 37 293742 (lw_Z below #[Value.ref b] s) (CW a cI cJ cC u' ++ MW a2 cI cJ cZ v') 970 [(3, .int (nI i)), (0, .ref b), (1, .ref (a 0)), (2, .ref (a2 0))] [] := by
        intro u' v' hR'
        refine z_iinc (pc := 970) K (v := nI (i + 7)) d_L_law_970 0 rfl (inc7 i) (by decide) rfl ?_
        refine z_goto (pc := 973) K (tgt := 18) d_L_law_973 (by decide) ?_
        exact ih (i + 7) hi (by omega) u' v' hR'
      refine z_aload_n (pc := 27) K d_L_law_27 rfl ?_
      refine z_iload_n (pc := 28) K d_L_law_28 rfl ?_
      refine z_sld (pc := 29) K X d_L_law_29 (vp_in_nI (by omega) (by omega)) ?_
      refine z_bipush (pc := 30) K (v := 31) d_L_law_30 (by decide) ?_
      refine z_iand (pc := 32) K d_L_law_32 ?_
      obtain ⟨j, hj, ej⟩ := pk_andE (xs (nI i).toNatClampNeg) (m := 31) 5 (by decide)
      refine z_eqi ej ?_
      rcases (show j = 0 ∨ j = 1 ∨ j = 2 ∨ j = 3 ∨ j = 4 ∨ j = 5 ∨ j = 6 ∨ j = 7 ∨ j = 8 ∨ j = 9 ∨ j = 10 ∨ j = 11 ∨ j = 12 ∨ j = 13 ∨ j = 14 ∨ j = 15 ∨ j = 16 ∨ j = 17 ∨ j = 18 ∨ j = 19 ∨ j = 20 ∨ j = 21 ∨ j = 22 ∨ 23 ≤ j by omega) with rfl | rfl | rfl | rfl | rfl | rfl | rfl | rfl | rfl | rfl | rfl | rfl | rfl | rfl | rfl | rfl | rfl | rfl | rfl | rfl | rfl | rfl | rfl | hj23
      · refine z_tableIn (pc := 33) K (off := 107) (tgt := 140) d_L_law_33 (by decide) (by decide) (by decide) (by decide) ?_
        exact law_versions K X hL hi hR h_ok h_versions kk
      · refine z_tableIn (pc := 33) K (off := 130) (tgt := 163) d_L_law_33 (by decide) (by decide) (by decide) (by decide) ?_
        exact law_term K X hL hi hR h_ok h_term kk
      · refine z_tableIn (pc := 33) K (off := 219) (tgt := 252) d_L_law_33 (by decide) (by decide) (by decide) (by decide) ?_
        exact law_both K X hL hi hR h_ok h_both kk
      · refine z_tableIn (pc := 33) K (off := 278) (tgt := 311) d_L_law_33 (by decide) (by decide) (by decide) (by decide) ?_
        exact law_relate K X hL hi hR h_ok h_relate kk
      · refine z_tableIn (pc := 33) K (off := 311) (tgt := 344) d_L_law_33 (by decide) (by decide) (by decide) (by decide) ?_
        exact law_about K X hL hi hR h_ok h_about kk
      · refine z_tableIn (pc := 33) K (off := 344) (tgt := 377) d_L_law_33 (by decide) (by decide) (by decide) (by decide) ?_
        exact law_set K X hL hi hR h_ok h_set kk
      · refine z_tableIn (pc := 33) K (off := 368) (tgt := 401) d_L_law_33 (by decide) (by decide) (by decide) (by decide) ?_
        exact law_needs K X hL hi hR h_ok h_needs kk
      · refine z_tableIn (pc := 33) K (off := 463) (tgt := 496) d_L_law_33 (by decide) (by decide) (by decide) (by decide) ?_
        exact law_derive K X hL hi hR h_ok h_derive kk
      · refine z_tableIn (pc := 33) K (off := 496) (tgt := 529) d_L_law_33 (by decide) (by decide) (by decide) (by decide) ?_
        exact law_bar K X hL hi hR h_ok h_bar kk
      · refine z_tableIn (pc := 33) K (off := 585) (tgt := 618) d_L_law_33 (by decide) (by decide) (by decide) (by decide) ?_
        exact law_learn K X hL hi hR h_ok h_learn kk
      · refine z_tableIn (pc := 33) K (off := 628) (tgt := 661) d_L_law_33 (by decide) (by decide) (by decide) (by decide) ?_
        exact law_count K X hL hi hR h_ok h_count kk
      · refine z_tableIn (pc := 33) K (off := 641) (tgt := 674) d_L_law_33 (by decide) (by decide) (by decide) (by decide) ?_
        exact law_terms K X hL hi hR h_ok h_terms kk
      · refine z_tableIn (pc := 33) K (off := 664) (tgt := 697) d_L_law_33 (by decide) (by decide) (by decide) (by decide) ?_
        exact law_part K X hL hi hR h_ok h_part kk
      · refine z_tableIn (pc := 33) K (off := 707) (tgt := 740) d_L_law_33 (by decide) (by decide) (by decide) (by decide) ?_
        exact law_partSet K X hL hi hR h_ok h_partSet kk
      · refine z_tableIn (pc := 33) K (off := 741) (tgt := 774) d_L_law_33 (by decide) (by decide) (by decide) (by decide) ?_
        exact law_choose K X hL hi hR h_ok h_choose kk
      · refine z_tableIn (pc := 33) K (off := 764) (tgt := 797) d_L_law_33 (by decide) (by decide) (by decide) (by decide) ?_
        exact law_forget K X hL hi hR h_ok h_forget kk
      · refine z_tableIn (pc := 33) K (off := 775) (tgt := 808) d_L_law_33 (by decide) (by decide) (by decide) (by decide) ?_
        exact law_state K X hL hi hR h_ok h_state kk
      · refine z_tableIn (pc := 33) K (off := 798) (tgt := 831) d_L_law_33 (by decide) (by decide) (by decide) (by decide) ?_
        exact law_forced K X hL hi hR h_ok h_forced kk
      · refine z_tableIn (pc := 33) K (off := 821) (tgt := 854) d_L_law_33 (by decide) (by decide) (by decide) (by decide) ?_
        exact law_spread K X hL hi hR h_ok h_spread kk
      · refine z_tableIn (pc := 33) K (off := 834) (tgt := 867) d_L_law_33 (by decide) (by decide) (by decide) (by decide) ?_
        exact law_chosen K X hL hi hR h_ok h_chosen kk
      · refine z_tableIn (pc := 33) K (off := 867) (tgt := 900) d_L_law_33 (by decide) (by decide) (by decide) (by decide) ?_
        exact law_chosenSet K X hL hi hR h_ok h_chosenSet kk
      · refine z_tableIn (pc := 33) K (off := 891) (tgt := 924) d_L_law_33 (by decide) (by decide) (by decide) (by decide) ?_
        exact law_print K X hL hi hR h_ok h_print kk
      · refine z_tableIn (pc := 33) K (off := 914) (tgt := 947) d_L_law_33 (by decide) (by decide) (by decide) (by decide) ?_
        exact law_at K X hL hi hR h_ok h_at kk
      · refine z_tableOut (pc := 33) K (tgt := 970) d_L_law_33 (Or.inr (by rw [nI_toInt (by omega)]; omega)) (by decide) ?_
        exact kk u v hR
theorem arrK {args : Array Value} {s : State} {ty : FieldType} (h : (Cond.arrayClass ty).before args s = true) : ∃ cA : ClassId, ArrOfT s cA ty ∧ s.vm.findClass ("[" ++ ty.toString) = some cA := by
  obtain ⟨cA, kA, comp, h1, h2, h3⟩ := Cond.arrayClass_spec h
  exact ⟨cA, fun n z => ⟨fun k h => (by cases h), kA, h2, comp, h3⟩, h1⟩
set_option maxRecDepth 100000 in
set_option maxHeartbeats 4000000 in
theorem whole_rel {p : Program} {e : Env} {s : State} {m : MethodId} {below : List Frame} {meth : Method} {c : Code} (l : Launch) {b L : Nat} {xs : Nat → Int32} (hL : L ≤ 3584) (C0 : lw_At p s m meth c b L xs) (Rel : US → MS → Prop) (h_ok : H_ok Rel) (h_versions : H_versions Rel) (h_term : H_term Rel) (h_both : H_both Rel) (h_relate : H_relate Rel) (h_about : H_about Rel) (h_set : H_set Rel) (h_needs : H_needs Rel) (h_derive : H_derive Rel) (h_bar : H_bar Rel) (h_learn : H_learn Rel) (h_count : H_count Rel) (h_terms : H_terms Rel) (h_part : H_part Rel) (h_partSet : H_partSet Rel) (h_choose : H_choose Rel) (h_forget : H_forget Rel) (h_state : H_state Rel) (h_forced : H_forced Rel) (h_spread : H_spread Rel) (h_chosen : H_chosen Rel) (h_chosenSet : H_chosenSet Rel) (h_print : H_print Rel) (h_at : H_at Rel) (h0 : Rel u0 v0) : W p l e room_1 s m #[Value.ref b] below meth c s.heap [] 0 0 (lw_Z below #[Value.ref b] s) (entryFrame m ([Value.ref b] : List Value).toArray 4) := by
  obtain ⟨hx, hb, hr, hml, hown, hts, hX, hbl, hlocks, hgv⟩ := id C0
  have htsA : ∀ w ∈ AW, w.before #[Value.ref b] s = true := fun w h => hts w (List.mem_filter.mp h).1
  have hbA : ¬ (fun q : Nat => s.heap.size ≤ q) b := Nat.not_le.mpr hbl
  obtain ⟨c0, iS0, hKn0⟩ := u_known (C := "DemandTerms") (T := T_D) (N := 6) (n := 6) htsA hi_D (htsA _ k11)
  obtain ⟨c1, iS1, hKn1⟩ := u_known (C := "DemandTerms$Names") (T := T_N) (N := 2) (n := 2) htsA hi_N (htsA _ k19)
  obtain ⟨c2, iS2, hKn2⟩ := u_known (C := "DemandTerms$TermTable") (T := T_T) (N := 3) (n := 3) htsA hi_T (htsA _ k33)
  obtain ⟨c3, iS3, hKn3⟩ := u_known (C := "DemandTerms$NeedRows") (T := T_R) (N := 6) (n := 6) htsA hi_R (htsA _ k50)
  obtain ⟨c4, iS4, hKn4⟩ := u_known (C := "DemandTerms$Clashes") (T := T_C) (N := 5) (n := 5) htsA hi_C (htsA _ k75)
  obtain ⟨c5, iS5, hKn5⟩ := u_known (C := "DemandTerms$Page") (T := T_G) (N := 2) (n := 2) htsA hi_G (htsA _ k97)
  obtain ⟨c6, iS6, hKn6⟩ := u_known (C := "DemandTermsModel") (T := T_M) (N := 22) (n := 22) htsA hi_M (htsA _ k466)
  obtain ⟨dC, dI, hKc⟩ : ∃ (dC : Nat → ClassId) (dI : Nat → Nat → Nat), ∀ (k : Nat) (q : vw_C), vwCl[k]? = some q → u_Kn s q.1 q.2.1 q.2.2 (dC k) (dI k) := by
    refine ⟨fun k => if k = 0 then c0 else if k = 1 then c1 else if k = 2 then c2 else if k = 3 then c3 else if k = 4 then c4 else if k = 5 then c5 else c6, fun k => if k = 0 then iS0 else if k = 1 then iS1 else if k = 2 then iS2 else if k = 3 then iS3 else if k = 4 then iS4 else if k = 5 then iS5 else iS6, ?_⟩
    intro k q hq
    match k, hq with
    | 0, hq => cases hq; exact hKn0
    | 1, hq => cases hq; exact hKn1
    | 2, hq => cases hq; exact hKn2
    | 3, hq => cases hq; exact hKn3
    | 4, hq => cases hq; exact hKn4
    | 5, hq => cases hq; exact hKn5
    | 6, hq => cases hq; exact hKn6
    | k + 7, hq => simp [vwCl] at hq
  obtain ⟨cI, hcI1, hcI2⟩ := arrK (htsA _ k48)
  obtain ⟨cJ, hcJ1, hcJ2⟩ := arrK (htsA _ k31)
  obtain ⟨cC, hcC1, hcC2⟩ := arrK (htsA _ k109)
  obtain ⟨cZ, hcZ1, hcZ2⟩ := arrK (htsA _ k539)
  have hK : va_K (dC, dI) vwCl (CT cI cJ cC cZ) s := by
    refine ⟨hKc, ?_⟩
    intro k q hq
    match k, hq with
    | 0, hq => cases hq; exact ⟨hcI1, hcI2⟩
    | 1, hq => cases hq; exact ⟨hcJ1, hcJ2⟩
    | 2, hq => cases hq; exact ⟨hcC1, hcC2⟩
    | 3, hq => cases hq; exact ⟨hcZ1, hcZ2⟩
    | k + 4, hq => simp at hq
  have K : Cx p s m #[Value.ref b] c code 4 "DemandTermsLaw" AW (dC, dI) vwCl (CT cI cJ cC cZ) (fun q : Nat => s.heap.size ≤ q) := ⟨⟨hx, hb, hml, hown, htsA⟩, hK, fun q h => h, fun q hq => va_Nw.of rfl (hts _ (List.mem_append_right _ (NWs_in q hq)))⟩
  have hP : va_P (dC, dI) vwCl [] s.heap := fun k q h => by simp at h
  have hD : va_D (fun q : Nat => s.heap.size ≤ q) [] := ⟨fun i j p q h => by simp at h, fun k q h => by simp at h⟩
  have hl := lv_entry ([.ref b]) (n := 4) (Nat.le_of_ble_eq_true rfl)
  rw [lg_entry_eq]
  refine (show zW p l e room_1 s m #[Value.ref b] below meth c (dC, dI) vwCl (fun q : Nat => s.heap.size ≤ q) 4 0 0 (lw_Z below #[Value.ref b] s) [] 0 [(0, .ref b)] [] from ?_) s.heap [] _ hP hD va_S.rf hl
  refine z_new (pc := 0) K (ci := 0) (fs := [.null, .null, .null, .null, .null, .null]) d_L_law_0 hi_D ty_D ty_D_ok k10 k11 k1 rfl (fun j hj => by rcases (show j = 0 ∨ j = 1 ∨ j = 2 ∨ j = 3 ∨ j = 4 ∨ j = 5 by omega) with rfl | rfl | rfl | rfl | rfl | rfl <;> rfl) (Nat.le_of_ble_eq_true rfl) (Nat.le_of_ble_eq_true rfl) (fun qx => ?_)
  refine z_dup (pc := 3) K d_L_law_3 rfl ?_
  refine z_fI (pc := 4) K (c_D_init qx) (cwI 0 K.1.2.2.2.2 (gA k14) rfl rfl rfl (htsA _ k1) (htsA _ k12) (htsA _ k13) rfl q_D_init.2 ⟨Nat.le_of_ble_eq_true rfl, Nat.le_of_ble_eq_true rfl⟩) d_L_law_4 rfl rfl (Nat.le_of_ble_eq_true rfl) ⟨Nat.le_of_ble_eq_true rfl, Nat.le_of_ble_eq_true rfl⟩ (fun px => ?_)
  refine z_ws (ws' := CW (zc qx px) cI cJ cC u0) rfl ?_
  refine z_astore_n (pc := 7) K d_L_law_7 rfl (by decide) rfl ?_
  refine z_new (pc := 8) K (ci := 6) (fs := [.int 0, .null, .int 0, .int 0, .int 0, .int 0, .null, .null, .null, .null, .null, .null, .null, .null, .null, .null, .null, .null, .null, .null, .null, .int 0]) d_L_law_8 hi_M ty_M ty_M_ok k465 k466 k7 rfl (fun j hj => by rcases (show j = 0 ∨ j = 1 ∨ j = 2 ∨ j = 3 ∨ j = 4 ∨ j = 5 ∨ j = 6 ∨ j = 7 ∨ j = 8 ∨ j = 9 ∨ j = 10 ∨ j = 11 ∨ j = 12 ∨ j = 13 ∨ j = 14 ∨ j = 15 ∨ j = 16 ∨ j = 17 ∨ j = 18 ∨ j = 19 ∨ j = 20 ∨ j = 21 by omega) with rfl | rfl | rfl | rfl | rfl | rfl | rfl | rfl | rfl | rfl | rfl | rfl | rfl | rfl | rfl | rfl | rfl | rfl | rfl | rfl | rfl | rfl <;> rfl) (Nat.le_of_ble_eq_true rfl) (Nat.le_of_ble_eq_true rfl) (fun qm => ?_)
  refine z_dup (pc := 11) K d_L_law_11 rfl ?_
  refine z_fI (pc := 12) K (m_init_c qm) (cwI 0 K.1.2.2.2.2 (gA k469) rfl rfl rfl (htsA _ k7) (htsA _ k467) (htsA _ k468) rfl q_M_init.2 ⟨Nat.le_of_ble_eq_true rfl, Nat.le_of_ble_eq_true rfl⟩) d_L_law_12 rfl rfl (Nat.le_of_ble_eq_true rfl) ⟨Nat.le_of_ble_eq_true rfl, Nat.le_of_ble_eq_true rfl⟩ (fun pm => ?_)
  refine z_astore_n (pc := 15) K d_L_law_15 rfl (by decide) rfl ?_
  refine z_iconst (pc := 16) K (v := 0) d_L_law_16 (by decide) ?_
  refine z_istore_n (pc := 17) K d_L_law_17 rfl (by decide) rfl ?_
  refine z_lv [0, 3, 2, 1] rfl ?_
  exact law_loop (a := zc qx px) (a2 := zc qm pm) Rel h_ok h_versions h_term h_both h_relate h_about h_set h_needs h_derive h_bar h_learn h_count h_terms h_part h_partSet h_choose h_forget h_state h_forced h_spread h_chosen h_chosenSet h_print h_at K ⟨hX, hbl, hbA⟩ hL hr hlocks (L + 1) 0 (Nat.zero_le _) (by omega) u0 v0 h0
