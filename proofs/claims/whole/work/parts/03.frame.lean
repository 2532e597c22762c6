theorem z_split {D : va_G} {cl : List vw_C} {w1 w2 : va_W} {H : Heap} (h : va_P D cl (w1 ++ w2) H) : va_P D cl w1 H ∧ va_P D cl w2 H :=
  ⟨fun k q hk => h k q (by rw [List.getElem?_append_left (List.getElem?_eq_some_iff.mp hk).1]; exact hk), fun k q hk => h (w1.length + k) q (by rw [List.getElem?_append_right (Nat.le_add_right _ _), Nat.add_sub_cancel_left]; exact hk)⟩
theorem z_splitD {A : Nat → Prop} {w1 w2 : va_W} (h : va_D A (w1 ++ w2)) : va_D A w1 ∧ va_D A w2 ∧ ∀ (i j : Nat) (p q : Nat × va_E), w1[i]? = some p → w2[j]? = some q → p.1 ≠ q.1 := by
  have e1 : ∀ (k : Nat) (q : Nat × va_E), w1[k]? = some q → (w1 ++ w2)[k]? = some q := fun k q hk => by rw [List.getElem?_append_left (List.getElem?_eq_some_iff.mp hk).1]; exact hk
  have e2 : ∀ (k : Nat) (q : Nat × va_E), w2[k]? = some q → (w1 ++ w2)[w1.length + k]? = some q := fun k q hk => by rw [List.getElem?_append_right (Nat.le_add_right _ _), Nat.add_sub_cancel_left]; exact hk
  refine ⟨⟨fun i j x y hi hj hxy => h.1 i j x y (e1 i x hi) (e1 j y hj) hxy, fun k q hk => h.2 k q (e1 k q hk)⟩, ⟨fun i j x y hi hj hxy => ?_, fun k q hk => h.2 _ q (e2 k q hk)⟩, fun i j x y hi hj hxy => ?_⟩
  · have := h.1 _ _ x y (e2 i x hi) (e2 j y hj) hxy
    omega
  · have g := h.1 _ _ x y (e1 i x hi) (e2 j y hj) hxy
    have := (List.getElem?_eq_some_iff.mp hi).1
    omega
theorem z_frame {A0 : Nat → Prop} {D : va_G} {cl : List vw_C} {wr wc w1 : va_W} {H H1 : Heap} (hP : va_P D cl (wr ++ wc) H) (hD : va_D A0 (wr ++ wc)) (hk : ∀ q : Nat, q < H.size → ¬ va_A wc H.size q → H1[q]? = H[q]?) (hF : ∀ q, va_A wc H.size q → A0 q) (hP1 : va_P D cl w1 H1) (hD1 : va_D (va_A wc H.size) w1) : va_P D cl (wr ++ w1) H1 ∧ va_D A0 (wr ++ w1) := by
  obtain ⟨hPr, hPc⟩ := z_split hP
  obtain ⟨hDr, hDc, hx⟩ := z_splitD hD
  have apart : ∀ (k : Nat) (q : Nat × va_E), wr[k]? = some q → q.1 < H.size ∧ ¬ va_A wc H.size q.1 := by
    intro k q hq
    have hl := (hPr k q hq).lt
    refine ⟨hl, fun h => ?_⟩
    rcases h with ⟨k2, e, h⟩ | h
    · exact hx k k2 q (q.1, e) hq h rfl
    · omega
  refine ⟨va_P.app (fun k q hq => (hPr k q hq).kept (hk q.1 (apart k q hq).1 (apart k q hq).2)) hP1, va_D.app hDr (hD1.weaken (fun k q _ h => hF q.1 h)) (fun i j x y hx' hy hxy => (apart i x hx').2 (by rw [hxy]; exact hD1.2 j y hy))⟩
section ZF
variable {p : Program} {l : Launch} {e : Env} {R : Room} {s : State} {m : MethodId} {args : Array Value} {below : List Frame} {meth : Method} {c : Code} {cells slots : Nat} {Q : State → Prop}
variable {D : va_G} {cl : List vw_C} {tys : List (ClassId × FieldType)} {A : Nat → Prop} {nL : Nat} {own : String} {Ts : List Cond} {cc : ByteArray} {ws : va_W} {pc : Nat} {lv : List (Nat × Value)} {st : List Value}
theorem z_swap {w1 w2 : va_W} (kk : zW p l e R s m args below meth c D cl A nL cells slots Q (w2 ++ w1) pc lv st) : zW p l e R s m args below meth c D cl A nL cells slots Q (w1 ++ w2) pc lv st := by
  intro H locs ls hP hD hS h
  obtain ⟨h1, h2⟩ := z_split hP
  obtain ⟨d1, d2, hx⟩ := z_splitD hD
  exact kk H locs ls (h2.app h1) (d2.app d1 (fun i j x y hi hj hxy => hx j i y x hj hi hxy.symm)) hS h
theorem z_fVi (K : Cx p s m args c cc nL own Ts D cl tys A) {S : Type} {V : S → va_W} {u u1 : S} {r : Int32} {y : MethodName} {wy : List Cond} {rm : Room} {index n maxL : Nat} {bytes : ByteArray} {ret : Option FieldType} {As rest : List Value} {wr : va_W} (q0 : Nat) {b ci : Nat} {C : String} {qc : vw_C} {fs : List Value} (hM : MI l D cl tys V y wy rm (.ref b :: As) u r u1) (cw : CallW R s args own C index y bytes maxL ret wy rm 0 0 n) (hd : decode cc pc = .ok (.invokevirtual index, 3)) (he : (V u)[q0]? = some (b, .inr (ci, fs))) (hc : cl[ci]? = some qc) (hC : qc.1 = C) (hn : As.length = n) (hst : st = As.reverse ++ .ref b :: rest) (hrm : (rest.map fun v => v.category).sum ≤ 8) (hf : cells + 0 ≤ R.cells ∧ slots + 0 ≤ R.slots) (kk : zW p l e R s m args below meth c D cl A nL cells slots Q (wr ++ V u1) (pc + 3) lv (.int r :: rest)) : zW p l e R s m args below meth c D cl A nL cells slots Q (wr ++ V u) pc lv st := by
  subst hst; subst hC
  intro H locs ls hP hD hS h
  obtain ⟨hPr, hPc⟩ := z_split hP
  obtain ⟨hDr, hDc, hx⟩ := z_splitD hD
  have hF := z_free (ws := V u) K.2.2.1 hDc hS
  refine va_calli (va_runV (As := As) (rest := rest) K.1 (hM H.size) cw ⟨zPc_blind, va_recv K.2.1 hPc hc he, fun U hU hW => ⟨rfl, by rw [hU], by rw [hU]; exact hPc, va_K.moved hW.alike K.2.1, hDc.weaken (fun _ _ _ _ => trivial), K.2.2.2.warm hW⟩⟩ rfl hn (h.1) rfl (lv_room hrm) hd hf) hS (fun q _ g => hF q g) hF (fun r' u' t H1 locs1 ht hvm hw hB hz1 hk1 hS1 => by
    obtain ⟨e1, e2⟩ := hw
    rw [e2] at hB
    rw [e1]
    obtain ⟨hP2, hD2⟩ := z_frame hP hD hk1 hF (ht ▸ hB.1) hB.2.2
    exact kk H1 locs1 ls hP2 hD2 hS1 h)
theorem z_fVl (K : Cx p s m args c cc nL own Ts D cl tys A) {S : Type} {V : S → va_W} {u u1 : S} {r : Int64} {y : MethodName} {wy : List Cond} {rm : Room} {index n maxL : Nat} {bytes : ByteArray} {ret : Option FieldType} {As rest : List Value} {wr : va_W} (q0 : Nat) {b ci : Nat} {C : String} {qc : vw_C} {fs : List Value} (hM : ML l D cl tys V y wy rm (.ref b :: As) u r u1) (cw : CallW R s args own C index y bytes maxL ret wy rm 0 0 n) (hd : decode cc pc = .ok (.invokevirtual index, 3)) (he : (V u)[q0]? = some (b, .inr (ci, fs))) (hc : cl[ci]? = some qc) (hC : qc.1 = C) (hn : As.length = n) (hst : st = As.reverse ++ .ref b :: rest) (hrm : (rest.map fun v => v.category).sum ≤ 8) (hf : cells + 0 ≤ R.cells ∧ slots + 0 ≤ R.slots) (kk : zW p l e R s m args below meth c D cl A nL cells slots Q (wr ++ V u1) (pc + 3) lv (.long r :: rest)) : zW p l e R s m args below meth c D cl A nL cells slots Q (wr ++ V u) pc lv st := by
  subst hst; subst hC
  intro H locs ls hP hD hS h
  obtain ⟨hPr, hPc⟩ := z_split hP
  obtain ⟨hDr, hDc, hx⟩ := z_splitD hD
  have hF := z_free (ws := V u) K.2.2.1 hDc hS
  refine va_calll (va_runV (As := As) (rest := rest) K.1 (hM H.size) cw ⟨zPc_blind, va_recv K.2.1 hPc hc he, fun U hU hW => ⟨rfl, by rw [hU], by rw [hU]; exact hPc, va_K.moved hW.alike K.2.1, hDc.weaken (fun _ _ _ _ => trivial), K.2.2.2.warm hW⟩⟩ rfl hn (h.1) rfl (lv_room hrm) hd hf) hS (fun q _ g => hF q g) hF (fun r' u' t H1 locs1 ht hvm hw hB hz1 hk1 hS1 => by
    obtain ⟨e1, e2⟩ := hw
    rw [e2] at hB
    rw [e1]
    obtain ⟨hP2, hD2⟩ := z_frame hP hD hk1 hF (ht ▸ hB.1) hB.2.2
    exact kk H1 locs1 ls hP2 hD2 hS1 h)
theorem z_fVv (K : Cx p s m args c cc nL own Ts D cl tys A) {S : Type} {V : S → va_W} {u u1 : S} {y : MethodName} {wy : List Cond} {rm : Room} {index n maxL : Nat} {bytes : ByteArray} {ret : Option FieldType} {As rest : List Value} {wr : va_W} (q0 : Nat) {b ci : Nat} {C : String} {qc : vw_C} {fs : List Value} (hM : MV l D cl tys V y wy rm (.ref b :: As) u u1) (cw : CallW R s args own C index y bytes maxL ret wy rm 0 0 n) (hd : decode cc pc = .ok (.invokevirtual index, 3)) (he : (V u)[q0]? = some (b, .inr (ci, fs))) (hc : cl[ci]? = some qc) (hC : qc.1 = C) (hn : As.length = n) (hst : st = As.reverse ++ .ref b :: rest) (hrm : (rest.map fun v => v.category).sum ≤ 8) (hf : cells + 0 ≤ R.cells ∧ slots + 0 ≤ R.slots) (kk : zW p l e R s m args below meth c D cl A nL cells slots Q (wr ++ V u1) (pc + 3) lv rest) : zW p l e R s m args below meth c D cl A nL cells slots Q (wr ++ V u) pc lv st := by
  subst hst; subst hC
  intro H locs ls hP hD hS h
  obtain ⟨hPr, hPc⟩ := z_split hP
  obtain ⟨hDr, hDc, hx⟩ := z_splitD hD
  have hF := z_free (ws := V u) K.2.2.1 hDc hS
  refine va_callv (va_runV (As := As) (rest := rest) K.1 (hM H.size) cw ⟨zPc_blind, va_recv K.2.1 hPc hc he, fun U hU hW => ⟨rfl, by rw [hU], by rw [hU]; exact hPc, va_K.moved hW.alike K.2.1, hDc.weaken (fun _ _ _ _ => trivial), K.2.2.2.warm hW⟩⟩ rfl hn (h.1) rfl (lv_room hrm) hd hf) hS (fun q _ g => hF q g) hF (fun u' t H1 locs1 ht hvm hw hB hz1 hk1 hS1 => by
    rw [hw] at hB
    obtain ⟨hP2, hD2⟩ := z_frame hP hD hk1 hF (ht ▸ hB.1) hB.2.2
    exact kk H1 locs1 ls hP2 hD2 hS1 h)
/-- a constructor: from the cells w0 to the cells w1 q, q the addresses that came -/
def MC (l : Launch) (D : va_G) (cl : List vw_C) (tys : List (ClassId × FieldType)) (y : MethodName) (wy : List Cond) (rm : Room) (av : List Value) (w0 : va_W) (w1 : (Nat → Nat) → va_W) (mc ms : Nat) : Prop :=
  ∀ sz : Nat, Met l y wy rm (va_Pc av (zPc D cl tys (fun _ : Unit => w0) () sz)) (va_Qv (fun _ : Nat → Nat => True) (fun q t => va_P D cl (w1 q) t.heap ∧ va_K D cl tys t ∧ va_D (va_A w0 sz) (w1 q)) (va_A w0 sz)) mc ms (va_A w0 sz)
theorem z_fI (K : Cx p s m args c cc nL own Ts D cl tys A) {y : MethodName} {wy : List Cond} {rm : Room} {index n maxL b mc ms : Nat} {bytes : ByteArray} {As rest : List Value} {wr w0 : va_W} {w1 : (Nat → Nat) → va_W} (hM : MC l D cl tys y wy rm (.ref b :: As) w0 w1 mc ms) (cw : CallB R s args own index y bytes maxL none wy rm mc ms n ∧ y.name = "<init>" ∧ (Cond.instanceMethod y).before args s = true) (hd : decode cc pc = .ok (.invokespecial index, 3)) (hn : As.length = n) (hst : st = As.reverse ++ .ref b :: rest) (hrm : (rest.map fun v => v.category).sum ≤ 8) (hf : cells + mc ≤ R.cells ∧ slots + ms ≤ R.slots) (kk : ∀ q : Nat → Nat, zW p l e R s m args below meth c D cl A nL (cells + mc) (slots + ms) Q (wr ++ w1 q) (pc + 3) lv rest) : zW p l e R s m args below meth c D cl A nL cells slots Q (wr ++ w0) pc lv st := by
  subst hst
  intro H locs ls hP hD hS h
  obtain ⟨hPr, hPc⟩ := z_split hP
  obtain ⟨hDr, hDc, hx⟩ := z_splitD hD
  have hF := z_free (ws := w0) K.2.2.1 hDc hS
  refine va_callv (va_runI (As := As) (rest := rest) K.1 (hM H.size) cw ⟨zPc_blind, fun U hU hW => ⟨rfl, by rw [hU], by rw [hU]; exact hPc, va_K.moved hW.alike K.2.1, hDc.weaken (fun _ _ _ _ => trivial), K.2.2.2.warm hW⟩⟩ rfl hn (h.1) rfl (lv_room hrm) hd hf) hS (fun q _ g => hF q g) hF (fun u' t H1 locs1 ht hvm hw hB hz1 hk1 hS1 => by
    obtain ⟨hP2, hD2⟩ := z_frame hP hD hk1 hF (ht ▸ hB.1) hB.2.2
    exact kk u' H1 locs1 ls hP2 hD2 hS1 h)
theorem z_fIN (K : Cx p s m args c cc nL own Ts D cl tys A) {y : MethodName} {wy : List Cond} {rm : Room} {index n maxL b mc ms : Nat} {bytes : ByteArray} {host : String} {As rest : List Value} {wr w0 : va_W} {w1 : (Nat → Nat) → va_W} (hM : MC l D cl tys y wy rm (.ref b :: As) w0 w1 mc ms) (cw : va_CN R s args own index y host bytes maxL none wy rm mc ms n ∧ y.name = "<init>" ∧ (Cond.instanceMethod y).before args s = true) (hd : decode cc pc = .ok (.invokespecial index, 3)) (hn : As.length = n) (hst : st = As.reverse ++ .ref b :: rest) (hrm : (rest.map fun v => v.category).sum ≤ 8) (hf : cells + mc ≤ R.cells ∧ slots + ms ≤ R.slots) (kk : ∀ q : Nat → Nat, zW p l e R s m args below meth c D cl A nL (cells + mc) (slots + ms) Q (wr ++ w1 q) (pc + 3) lv rest) : zW p l e R s m args below meth c D cl A nL cells slots Q (wr ++ w0) pc lv st := by
  subst hst
  intro H locs ls hP hD hS h
  obtain ⟨hPr, hPc⟩ := z_split hP
  obtain ⟨hDr, hDc, hx⟩ := z_splitD hD
  have hF := z_free (ws := w0) K.2.2.1 hDc hS
  refine va_callv (va_runIN (As := As) (rest := rest) K.1 (hM H.size) cw ⟨zPc_blind, fun U hU hW => ⟨rfl, by rw [hU], by rw [hU]; exact hPc, va_K.moved hW.alike K.2.1, hDc.weaken (fun _ _ _ _ => trivial), K.2.2.2.warm hW⟩⟩ rfl hn (h.1) rfl (lv_room hrm) hd hf) hS (fun q _ g => hF q g) hF (fun u' t H1 locs1 ht hvm hw hB hz1 hk1 hS1 => by
    obtain ⟨hP2, hD2⟩ := z_frame hP hD hk1 hF (ht ▸ hB.1) hB.2.2
    exact kk u' H1 locs1 ls hP2 hD2 hS1 h)
theorem z_objInit (K : Cx p s m args c cc nL own Ts D cl tys A) {idx a : Nat} (hlink : Cond.methodLink own idx Lib.objectInit ∈ Ts) (hinst : Cond.instanceMethod Lib.objectInit ∈ Ts) (hcode : Cond.code Lib.objectInit ⟨#[0xb1]⟩ 1 none ∈ Ts) (hd : decode cc pc = .ok (.invokespecial idx, 3)) (hfr : 1 ≤ R.frames) (hlo : (st.map fun v => v.category).sum + 12 ≤ R.locals) (kk : zW p l e R s m args below meth c D cl A nL cells slots Q ws (pc + 3) lv st) : zW p l e R s m args below meth c D cl A nL cells slots Q ws pc lv (.ref a :: st) := fun H locs ls hP hD hS h => W.objInit K.1.1 K.1.2.1 K.1.2.2.2.1 (K.1.2.2.2.2 _ hlink) (K.1.2.2.2.2 _ hinst) (K.1.2.2.2.2 _ hcode) rfl (by rw [K.1.2.2.1]; exact h.1) rfl hd hfr (by show 2 * 0 + _ + 12 ≤ R.locals; omega) (kk H locs ls hP hD hS h)
theorem z_new (K : Cx p s m args c cc nL own Ts D cl tys A) {C : String} {T : u_T} {N ci index : Nat} {fs : List Value} (hd : decode cc pc = .ok (.new index, 3)) (hin : ∀ w ∈ u_ws C T N, w ∈ Ts) (ty : Nat → FieldType) (hty : ∀ k, k < N → parseFieldDescriptor (T k).2.2.1 = some (ty k)) (hcl : Cond.classLink own index C ∈ Ts) (hinst : Cond.instantiable C N ∈ Ts) (hini : Cond.initialized C ∈ Ts) (hc : cl[ci]? = some (C, T, N)) (hfs : ∀ j, j < N → defaultValue (ty j) = vp_V fs j) (hcells : cells + 1 ≤ R.cells) (hslots : slots + N ≤ R.slots) (kk : ∀ q : Nat, zW p l e R s m args below meth c D cl A nL (cells + 1) (slots + N) Q (ws ++ [(q, .inr (ci, fs))]) (pc + 3) lv (.ref q :: st)) : zW p l e R s m args below meth c D cl A nL cells slots Q ws pc lv st := fun H locs ls hP hD hS h => va_new K.1.1 K.1.2.1 K.1.2.2.2.2 hin ty hty K.1.2.2.2.1 (K.1.2.2.2.2 _ hcl) (K.1.2.2.2.2 _ hinst) (K.1.2.2.2.2 _ hini) K.2.1 hP hD hS K.2.2.1 hc hfs hcells hslots hd (fun q H hP hD hS => kk q H locs ls hP hD hS h)
theorem z_newa (K : Cx p s m args c cc nL own Ts D cl tys A) {atype : ArrayType} {ty : FieldType} {n : Int32} {N' : Nat} {a0 : vp_A} {cA : ClassId} (hd : decode cc pc = .ok (.newarray atype, 2)) (harr : Cond.arrayClass (newarray.typeOf atype) ∈ Ts) (hty : newarray.typeOf atype = ty) (hob : ∀ C, ty ≠ .object C) (t0 : Nat) (ht : tys[t0]? = some (cA, ty)) (ha : ∀ cA : ClassId, vp_cell cA a0 = arrV cA N' (fun _ => defaultValue ty)) (hn : ¬ n < 0) (hN : n.toNatClampNeg = N') (hbytes : N' * componentBytes ty ≤ 536870912) (hcells : cells + 1 ≤ R.cells) (hslots : slots + N' ≤ R.slots) (kk : ∀ q : Nat, zW p l e R s m args below meth c D cl A nL (cells + 1) (slots + N') Q (ws ++ [(q, .inl (cA, a0))]) (pc + 2) lv (.ref q :: st)) : zW p l e R s m args below meth c D cl A nL cells slots Q ws pc lv (.int n :: st) := by
  intro H locs ls hP hD hS h
  refine va_newa K.1.1 K.1.2.1 (K.1.2.2.2.2 _ harr) hty K.2.1 hP hD hS K.2.2.1 ha hn hN hbytes hcells hslots hd (fun q cA' H1 hK1 hP1 hD1 hS1 => ?_)
  have e1 : va_RA s cA' ty := (hK1.2 tys.length (cA', ty) (by rw [List.getElem?_append_right (Nat.le_refl _), Nat.sub_self]; rfl)).2
  have e2 : va_RA s cA ty := (K.2.1.2 t0 _ ht).2
  have e3 : cA' = cA := by
    cases ty with
    | object C => exact absurd rfl (hob C)
    | _ => exact Option.some.inj (e1.symm.trans e2)
  subst e3
  exact kk q H1 locs ls hP1 hD1 hS1 h
theorem z_putF (K : Cx p s m args c cc nL own Ts D cl tys A) {ref C : String} {T : u_T} {N ci index a : Nat} {fs : List Value} {v : Value} {ty : FieldType} {ws' : va_W} (hin2 : meth.name = "<init>") (hd : decode cc pc = .ok (.putfield index, 3)) (hin : ∀ w ∈ u_ws C T N, w ∈ Ts) (ty0 : Nat → FieldType) (hty : ∀ k, k < N → parseFieldDescriptor (T k).2.2.1 = some (ty0 k)) (hnm : ∀ a, a < N → ∀ b, b < N → a ≠ b → (T a).2.1 ≠ (T b).2.1) (q0 : Nat) (he : ws[q0]? = some (a, .inr (ci, fs))) (hc : cl[ci]? = some (C, T, N)) (k : Nat) (hk : k < N) (hlink : Cond.fieldLink own index ref (T k).2.1 (T k).2.2.1 ∈ Ts) (href : ref = (T k).1) (hfin : (T k).2.2.2 = true) (hdecl : (T k).1 = own) (hdt : parseFieldDescriptor (T k).2.2.1 = some ty) (hn : narrow ty v = v) (hfit : fits ty v = true) (hl : k < fs.length) (hw : ws.set q0 (a, .inr (ci, fs.set k v)) = ws') (kk : zW p l e R s m args below meth c D cl A nL cells slots Q ws' (pc + 3) lv st) : zW p l e R s m args below meth c D cl A nL cells slots Q ws pc lv (v :: .ref a :: st) := fun H locs ls hP hD hS h => va_putF K.1.1 K.1.2.1 K.1.2.2.2.2 hin ty0 hty hnm K.1.2.2.2.1 K.2.1 hP hD hS q0 he hc k hk (K.1.2.2.2.2 _ hlink) (fun _ h9 => by rw [href]; exact h9) hfin hin2 hdecl hdt hn hfit hl hd (fun H locs hP hD hS => kk H locs ls (hw ▸ hP) (hw ▸ hD) hS h)
end ZF
theorem MC.of {l : Launch} {D : va_G} {cl : List vw_C} {tys : List (ClassId × FieldType)} {y : MethodName} {wy wy' : List Cond} {rm : Room} {cc : ByteArray} {nL mc ms : Nat} {av : List Value} {w0 : va_W} {w1 : (Nat → Nat) → va_W} (hy : plainName y.cls = true) (hini : y.name = "<init>") (hw : wy = Cond.code y cc nL none :: wy') (hlen : (lg_sl av).length ≤ nL)
    (body : ∀ (p : Program) (e : Env) (s : State) (m : MethodId) (below : List Frame) (meth : Method) (c : Code) (A : Nat → Prop) (Q : State → Prop), Cx p s m av.toArray c cc nL y.cls wy' D cl tys A → meth.name = "<init>" → (∀ (q : Nat → Nat) (pc : Nat) (lv : List (Nat × Value)), decode cc pc = .ok (.return_, 1) → zW p l e rm s m av.toArray below meth c D cl A nL mc ms Q (w1 q) pc lv []) → zW p l e rm s m av.toArray below meth c D cl A nL 0 0 Q w0 0 (lv_args 0 av) []) : MC l D cl tys y wy rm av w0 w1 mc ms := by
  intro sz
  refine Met.ofW (cc := cc) (maxL := nL) (ret := none) hy hw ?_
  intro p e s m args below meth c s₁ B hml hv
  obtain ⟨rfl, hsz, hP, hK, hD0, hN⟩ := hv
  have hts : ∀ w ∈ wy', w.before av.toArray s = true := fun w h => atoms_spec (ws := wy) B.pre w (by rw [hw]; exact List.mem_cons_of_mem _ h)
  have hown : s.vm.findClass y.cls = some m.cls := findClass_of_methodNamed B.named
  have hlocks := B.notSynchronized
  have hin : meth.name = "<init>" := (name_of_methodNamed B.named B.method).1.trans hini
  subst hsz
  have hD := hD0.self (sz := s.heap.size)
  have hA : ∀ q : Nat, s.heap.size ≤ q → va_A w0 s.heap.size q := fun q h => Or.inr h
  have hl := lv_entry av (n := nL) hlen
  rw [lg_entry_eq]
  refine body p e s m below meth c (va_A w0 s.heap.size) _ ⟨⟨B.exec, B.bytes, hml, hown, hts⟩, hK, hA, hN⟩ hin ?_ s.heap [] _ hP hD va_S.rf hl
  intro q pc lv hd H locs ls hP1 hD1 hS1 hl1
  exact W.vret B.exec B.bytes B.returns (fun t ht hW => ⟨⟨q, rfl, trivial, by rw [ht]; exact hP1, va_K.moved hW.alike hK, hD1⟩, hS1.F ht⟩) hS1.2.2 hd hlocks
