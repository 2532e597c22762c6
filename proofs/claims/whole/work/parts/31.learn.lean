/-! bar, learn -/
theorem fr_add {u : US} {v : MS} (hC : (uC u).1 = mB v) (hk : mB v < 300) (src : Int32) (run : Int64) : FrC (mB v) (uC u) (c_add (uC u) src run).2 ∧ cH (c_add (uC u) src run).2 (mB v) = nI 0 ∧ cO (c_add (uC u) src run).2 (mB v) = src ∧ cR (c_add (uC u) src run).2 (mB v) = run := by
  have e : (c_add (uC u) src run).2 = (mB v + 1, upd (cH (uC u)) (mB v) 0, cP (uC u), upd (cO (uC u)) (mB v) src, vp_updL (cR (uC u)) (mB v) run) := by
    rw [c_add, hC, if_neg (show ¬ (300 : Int32) ≤ nI (mB v) from nI_ge (b := 300) hk (by decide))]
  rw [e]
  refine ⟨⟨rfl, fun j hj => ?_, fun j _ => rfl⟩, ?_, ?_, ?_⟩
  · have : j ≠ mB v := by omega
    refine ⟨?_, ?_, ?_⟩
    · show upd (cH (uC u)) (mB v) 0 j = _
      simp [upd, this]
    · show upd (cO (uC u)) (mB v) src j = _
      simp [upd, this]
    · show vp_updL (cR (uC u)) (mB v) run j = _
      simp [vp_updL, this]
  · show upd (cH (uC u)) (mB v) 0 (mB v) = _
    simp [upd]; rfl
  · show upd (cO (uC u)) (mB v) src (mB v) = _
    simp [upd]
  · show vp_updL (cR (uC u)) (mB v) run (mB v) = _
    simp [vp_updL]
theorem fr_begin {v : MS} (hm : mOk v) {E : DS} (hE : ∀ j, j < mB v → dN E j = dN (mE v) j ∧ dF E j = dF (mE v) j ∧ dL E j = dL (mE v) j ∧ dO E j = dO (mE v) j ∧ dK E j = dK (mE v) j ∧ dS E j = dS (mE v) j) : FrM v (mB v) (mL v) (updN (mP v) (mB v) 0) E := by
  refine ⟨fun t _ => ⟨rfl, rfl⟩, fun j hj => ?_, hE, hm.2.2.1, updN_le hm.2.2.2.2 (Nat.zero_le _)⟩
  have : j ≠ mB v := by omega
  simp [updN, this]
theorem bar_0 {u : US} {v : MS} {c : CS} {E : DS} (h : cH c (mB v) = nI 0) : BarP (wC u c) (mkV v (mL v) (updN (mP v) (mB v) 0) E) (mB v) 0 := by
  have z : ∀ i, ¬ i < updN (mP v) (mB v) 0 (mB v) := fun i => by rw [updN_s]; exact Nat.not_lt_zero _
  refine ⟨h, by decide, fun i hi => absurd hi (z i), fun i j _ hj => absurd hj (z j), fun x _ hx => ?_, ?_⟩
  · rw [Nat.zero_testBit] at hx; cases hx
  · show updN (mP v) (mB v) 0 (mB v) ≤ 16
    rw [updN_s]; exact Nat.zero_le _
/-- a new part is put into the bar that is being made -/
theorem put_step {u : US} {v : MS} {c : CS} {L : SLt} {P : Nat → Nat} {E : DS} {h x : Nat} {p : Int64} {g : Nat → Bool} (hm : mOk v) (hN : RelN u v) (hk : mB v < 300) (fC : FrC (mB v) (uC u) c) (fM : FrM v (mB v) L P E) (hb : BarP (wC u c) (mkV v L P E) (mB v) h) (hx : x < mN v) (hp : PR p g) (hv : Val (mV v x) g) (hn : h.testBit x = false) :
    ∃ L' P' h', m_ap (mkV v (updN L.1 5416 x, setU L.2 5416 g 49) P E) 5416 = mkV v L' P' E ∧ FrC (mB v) (uC u) (d_ppC (wC u c) (nI (mB v)) (nI x) p) ∧ FrM v (mB v) L' P' E ∧ BarP (wC u (d_ppC (wC u c) (nI (mB v)) (nI x) p)) (mkV v L' P' E) (mB v) h' ∧ (∀ y, h'.testBit y = true → h.testBit y = true ∨ y = x) ∧ cO (d_ppC (wC u c) (nI (mB v)) (nI x) p) (mB v) = cO c (mB v) ∧ cR (d_ppC (wC u c) (nI (mB v)) (nI x) p) (mB v) = cR c (mB v) := by
  have h16 := hm.1.1
  have hS : ∀ t, t ≠ 5416 → Same L (updN L.1 5416 x, setU L.2 5416 g 49) t := fun t ht => same_set ht
  obtain ⟨g1, g2, g3, g4, g5⟩ := fM
  refine ap_step hm hN hk fC ⟨fun t ht => ?_, g2, g3, updN_lt g4 (by omega), g5⟩ (barP_L (v := mkV v L P E) hb hk (fun t _ h2 => hS t (by omega)) rfl (Nat.le_refl _) (fun _ _ => rfl)) (slot_set (v := mkV v L P E) hx hp hv) hn
  have a := g1 t ht
  have b := hS t (by omega)
  exact ⟨b.1.trans a.1, b.2.trans a.2⟩
theorem rel_bar : H_bar Rel := fun u v x t w h => by
  have hR0 := h
  obtain ⟨hm, hN, hT, hR, hC, hH, hG⟩ := h
  have h16 := hm.1.1
  have h3 := hm.1.2.2.1
  unfold d_barC m_bar
  rw [hN.1]
  rcases hasIx_cases (n := mN v) (by omega) x with e | ⟨j, hj, ex, ec, e⟩
  · rw [if_neg (by rw [e]; decide), if_neg (by rw [e]; decide)]
    exact ⟨rfl, hR0⟩
  · rw [if_pos e, if_pos e, hC.1, ec, ex]
    by_cases h6 : nI (mB v) = 300
    · rw [if_pos ((i300 h3).mpr h6), if_pos h6]
      exact ⟨rfl, hR0⟩
    · rw [if_neg (fun q => h6 ((i300 h3).mp q)), if_neg h6]
      refine ⟨rfl, ?_⟩
      have hk : mB v < 300 := Nat.lt_of_le_of_ne h3 (fun q => h6 (by rw [q]; rfl))
      have ew : (if bI w = 0 then (1 : Int32) else 0) = bI (!w) := by cases w <;> rfl
      obtain ⟨f1, f2, f3, f4⟩ := fr_add hC.1 hk (-1) 0
      have fM := fr_begin (v := v) hm (E := (upd (dN (mE v)) (mB v) (-1), (mE v).2)) (fun j hj => by
        have : j ≠ mB v := by omega
        exact ⟨by show upd (dN (mE v)) (mB v) (-1) j = _; simp [upd, this], rfl, rfl, rfl, rfl, rfl⟩)
      obtain ⟨L', P', h', e1, e2, e3, e4, e5, e6, e7⟩ := put_step (p := n_po (uN u) (nI j) t (bI (!w))) hm hN hk f1 fM (bar_0 (u := u) f2) hj (po_PR hm hN hj t (!w)) (mk_val _ _ _ _) (Nat.zero_testBit _)
      have e1 : m_barV v j t (!w) = addBar (mkV v L' P' (upd (dN (mE v)) (mB v) (-1), (mE v).2)) := congrArg addBar e1
      show Rel (wC u (d_ppC (wC u (c_add (uC u) (-1) 0).2) (nI (mB v)) (nI j) (n_po (uN u) (nI j) t (if bI w = 0 then 1 else 0)))) (m_barV v j t (!w))
      rw [ew, e1]
      refine fin_bar hR0 hk e2 e3 e4 (Or.inl ⟨e6.trans f3, ?_⟩)
      show upd (dN (mE v)) (mB v) (-1) (mB v) = -1
      simp [upd]
-- learn
theorem pol_none {v : MS} {a i : Nat} (hm : ∀ t, (mL v).1 t < 16) (hi : i < 16) : ∀ n, (∀ j, j < n → (mL v).1 (600 + 16 * a + j) ≠ i) → m_pol v a (nI i) n = none := by
  intro n
  induction n with
  | zero => intro _; rfl
  | succ n ih =>
    intro h
    have hn := hm (600 + 16 * a + n)
    rw [m_pol, if_neg (fun q => h n (by omega) ((nI_eq (by omega) (by omega)).mp q))]
    exact ih (fun j hj => h j (by omega))
theorem pol_some {v : MS} {a i j : Nat} (hm : ∀ t, (mL v).1 t < 16) (hi : (mL v).1 (600 + 16 * a + j) = i) : ∀ n, j < n → (∀ j', j' < n → (mL v).1 (600 + 16 * a + j') = i → j' = j) → m_pol v a (nI i) n = some (600 + 16 * a + j) := by
  intro n
  induction n with
  | zero => intro h; omega
  | succ n ih =>
    intro h1 h2
    have hn := hm (600 + 16 * a + n)
    have hi2 := hm (600 + 16 * a + j)
    rw [m_pol]
    by_cases c : nI ((mL v).1 (600 + 16 * a + n)) = nI i
    · rw [if_pos c]
      have := h2 n (by omega) ((nI_eq (by omega) (by omega)).mp c)
      rw [this]
    · rw [if_neg c]
      have : j ≠ n := fun q => c (by rw [← q, hi])
      exact ih (by omega) (fun j' h' e => h2 j' (by omega) e)
theorem pol_out {v : MS} {a : Nat} {z : Int32} (hm : ∀ t, (mL v).1 t < 16) (hz : ¬ ∃ j : Nat, j < 16 ∧ z = nI j) : ∀ n, m_pol v a z n = none := by
  intro n
  induction n with
  | zero => rfl
  | succ n ih => rw [m_pol, if_neg (fun q => hz ⟨_, hm (600 + 16 * a + n), q.symm⟩), ih]
theorem pol_fr {v : MS} {k a : Nat} {L : SLt} {P : Nat → Nat} {E : DS} (fM : FrM v k L P E) (ha : a < k) (z : Int32) : ∀ n, n ≤ 16 → m_pol (mkV v L P E) a z n = m_pol v a z n := by
  intro n
  induction n with
  | zero => intro _; rfl
  | succ n ih =>
    intro h
    rw [m_pol, m_pol, ih (by omega)]
    show (if nI (L.1 (600 + 16 * a + n)) = z then _ else _) = _
    rw [(fM.1 (600 + 16 * a + n) (by omega)).1]
theorem po_fr {v : MS} {k a : Nat} {L : SLt} {P : Nat → Nat} {E : DS} (hm : mOk v) (fM : FrM v k L P E) (ha : a < k) (z : Int32) : m_po (mkV v L P E) a z = m_po v a z := by
  show m_pol (mkV v L P E) a z (P a) = _
  rw [fM.2.1 a ha, pol_fr fM ha z _ (hm.2.2.2.2 a)]
  rfl
theorem po_no {u : US} {v : MS} {a h i : Nat} (hm : mOk v) (hb : BarP u v a h) (hi : i < 16) (hn : h.testBit i = false) : m_po v a (nI i) = none :=
  pol_none hm.2.2.1 hi _ (fun j hj e => by have := (hb.2.2.1 j hj).1; rw [e, hn] at this; cases this)
theorem po_yes {u : US} {v : MS} {a h i : Nat} (hm : mOk v) (hb : BarP u v a h) (hi : i < 16) (hn : h.testBit i = true) : ∃ j, j < mP v a ∧ (mL v).1 (600 + 16 * a + j) = i ∧ m_po v a (nI i) = some (600 + 16 * a + j) := by
  obtain ⟨j, hj, e⟩ := hb.2.2.2.2.1 i hi hn
  exact ⟨j, hj, e, pol_some hm.2.2.1 e _ hj (fun j' h' e' => nm_inj hb h' hj (e'.trans e.symm))⟩
theorem holds_po {u : US} {v : MS} {a : Nat} (h : Rel u v) (ha : a < mB v) (z : Int32) : c_holds (uC u) (nI a) z = true ↔ ¬ fI (m_po v a z) = -1 := by
  obtain ⟨hm, hN, hT, hR, hC, hH, hG⟩ := h
  obtain ⟨⟨hh, hb⟩, -⟩ := hC.2 a ha
  have h3 := hm.1.2.2.1
  by_cases hz : ∃ j : Nat, j < 16 ∧ z = nI j
  · obtain ⟨j, hj, rfl⟩ := hz
    rw [holds_eq hm hC ha hb hj]
    cases ht : hh.testBit j with
    | false => rw [po_no hm hb hj ht]; exact ⟨fun q => absurd q (by decide), fun q => absurd fI_none q⟩
    | true =>
      obtain ⟨i, hi, -, e⟩ := po_yes hm hb hj ht
      have h6 := hb.2.2.2.2.2
      rw [e]
      exact ⟨fun _ => fI_some (by omega), fun _ => rfl⟩
  · rw [holds_x hz, show m_po v a z = none from pol_out hm.2.2.1 hz _]
    exact ⟨fun q => absurd q (by decide), fun q => absurd fI_none q⟩
theorem pin_eq {u : US} {v : MS} {c : CS} {a h i : Nat} (hk : mB v < 300) (fC : FrC (mB v) (uC u) c) (ha : a < mB v) (hb : BarP u v a h) (hi : i < 16) : d_pin (wC u c) (nI a) (nI i) = if h.testBit i = true then cP (uC u) (a * 16 + i) else n_ev (uN u) (nI i) := by
  obtain ⟨f1, f2, f3⟩ := fC
  have e : c_holds c (nI a) (nI i) = h.testBit i := holds_raw (by rw [f1]; omega) (by rw [f1]; omega) ((f2 a ha).1.trans hb.1) hb.2.1 hi
  show (if c_holds c (nI a) (nI i) = true then c_pl c (nI a) (nI i) else n_ev (uN u) (nI i)) = _
  rw [c_pl, e, nI_clamp (by omega), nI_clamp (by omega), f3 _ (by omega)]
  cases h.testBit i <;> rfl
theorem jn_PR {L : SLt} {p q : Nat} {pa pb : Int64} (h1 : PR pa (L.2 p)) (h2 : PR pb (L.2 q)) (e : Bool) : PR (if e = true then pa ||| pb else pa &&& pb) (m_jn L p q e) := by
  cases e with
  | true => rw [if_pos rfl]; exact h1.or h2
  | false => rw [if_neg (by decide)]; exact h1.and h2
theorem jn_Val {L : SLt} {p q k : Nat} (h1 : Val k (L.2 p)) (h2 : Val k (L.2 q)) (e : Bool) : Val k (m_jn L p q e) := fun b a1 a2 => by
  unfold m_jn
  rw [h1 b a1 a2, h2 b a1 a2]
  cases e <;> rfl
theorem Val.full {k : Nat} {r : Nat → Bool} (h : Val k r) {b : Nat} (hb : b < 49) : (r b && fullR k b) = r b := by
  unfold fullR
  by_cases c : b ≤ k
  · rw [decide_eq_true c, Bool.and_true]
  · have := h (b - 1) (by omega) (by omega)
    rw [show b - 1 + 1 = b by omega] at this
    rw [this]; rfl
theorem slot_in {u : US} {v : MS} {a h i : Nat} {L : SLt} {P : Nat → Nat} {E : DS} (hm : mOk v) (fM : FrM v (mB v) L P E) (ha : a < mB v) (hb : BarP u v a h) (hi : i < 16) (ht : h.testBit i = true) : ∃ p, m_po (mkV v L P E) a (nI i) = some p ∧ L.1 p = i ∧ PR (cP (uC u) (a * 16 + i)) (L.2 p) ∧ Val (mV v i) (L.2 p) := by
  obtain ⟨j, hj, e1, e2⟩ := po_yes hm hb hi ht
  have h6 := hb.2.2.2.2.2
  have hs := (hb.2.2.1 j hj).2
  rw [e1] at hs
  obtain ⟨s1, s2, s3, s4⟩ := hs
  have f := fM.1 (600 + 16 * a + j) (by omega)
  exact ⟨_, (po_fr hm fM ha _).trans e2, f.1.trans s1, by rw [f.2]; exact s3, by rw [f.2]; exact s4⟩
def LI (u : US) (v : MS) (E : DS) (i : Nat) (c : CS) (L : SLt) (P : Nat → Nat) : Prop := FrC (mB v) (uC u) c ∧ FrM v (mB v) L P E ∧ cO c (mB v) = -1 ∧ ∃ h, BarP (wC u c) (mkV v L P E) (mB v) h ∧ ∀ y, h.testBit y = true → y < i
theorem ln_put {u : US} {v : MS} {E : DS} {i : Nat} {c : CS} {L : SLt} {P : Nat → Nat} {p q : Nat} {w : Bool} {pl : Int64} (hm : mOk v) (hN : RelN u v) (hk : mB v < 300) (hI : LI u v E i c L P) (hi : i < mN v) (hp : L.1 p = i) (hP : PR pl (m_jn L p q w)) (hV : Val (mV v i) (m_jn L p q w)) : ∃ L' P', m_ln1 (mkV v L P E) p q w = mkV v L' P' E ∧ LI u v E (i + 1) (d_ppC (wC u c) (nI (mB v)) (nI i) pl) L' P' := by
  obtain ⟨f1, f2, f3, h, hb, hh⟩ := hI
  have hn : h.testBit i = false := by
    cases q : h.testBit i with
    | false => rfl
    | true => have := hh i q; omega
  obtain ⟨L', P', h', e1, e2, e3, e4, e5, e6, e7⟩ := put_step hm hN hk f1 f2 hb hi hP hV hn
  refine ⟨L', P', ?_, e2, e3, e6.trans f3, h', e4, fun y hy => ?_⟩
  · rw [← e1]
    show m_ap (mkV v (updN L.1 5416 (L.1 p), setU L.2 5416 (m_jn L p q w) 49) P E) 5416 = _
    rw [hp]
  · rcases e5 y hy with a | a
    · have := hh y a; omega
    · omega
theorem ln_step {u : US} {v : MS} {E : DS} {i a b ha hb : Nat} {c : CS} {L : SLt} {P : Nat → Nat} {z : Int32} (hm : mOk v) (hN : RelN u v) (hk : mB v < 300) (la : a < mB v) (lb : b < mB v) (Ba : BarP u v a ha) (Bb : BarP u v b hb) (hz : ∀ i, i < 16 → nI i = z → ha.testBit i = true ∧ hb.testBit i = true) (hI : LI u v E i c L P) (hi : i < mN v) :
    ∃ L' P', m_lns (mkV v L P E) z i (m_po (mkV v L P E) a (nI i)) (m_po (mkV v L P E) b (nI i)) = mkV v L' P' E ∧ LI u v E (i + 1) (d_ppC (wC u c) (nI (mB v)) (nI i) (d_lp (wC u c) (nI a) (nI b) z i)) L' P' := by
  have h16 := hm.1.1
  have hI0 := hI
  obtain ⟨f1, f2, f3, h, hB, hh⟩ := hI
  have i16 : i < 16 := by omega
  have hE := ev_PR hm hN hi
  have eL : d_lp (wC u c) (nI a) (nI b) z i = if decide (nI i = z) = true then d_pin (wC u c) (nI a) (nI i) ||| d_pin (wC u c) (nI b) (nI i) else d_pin (wC u c) (nI a) (nI i) &&& d_pin (wC u c) (nI b) (nI i) := by
    rw [d_lp]
    by_cases q : nI i = z
    · rw [if_pos q, if_pos (decide_eq_true q)]
    · rw [if_neg q, if_neg (by rw [decide_eq_false q]; decide)]
  rw [eL, pin_eq hk f1 la Ba i16, pin_eq hk f1 lb Bb i16]
  cases ta : ha.testBit i with
  | false =>
    have nz : ¬ nI i = z := fun q => by rw [(hz i i16 q).1] at ta; cases ta
    rw [po_fr hm f2 la, po_no hm Ba i16 ta, decide_eq_false nz, if_neg (by decide), if_neg (by decide)]
    cases tb : hb.testBit i with
    | false =>
      rw [po_fr hm f2 lb, po_no hm Bb i16 tb, if_neg (by decide)]
      refine ⟨L, P, rfl, ?_⟩
      have e : d_ppC (wC u c) (nI (mB v)) (nI i) (n_ev (uN u) (nI i) &&& n_ev (uN u) (nI i)) = c := by
        rw [d_ppC, if_pos Int64.and_self]
      rw [e]
      exact ⟨f1, f2, f3, h, hB, fun y hy => by have := hh y hy; omega⟩
    | true =>
      obtain ⟨q, e1, e2, e3, e4⟩ := slot_in hm f2 lb Bb i16 tb
      rw [e1, if_pos rfl]
      show ∃ L' P', m_ln1 (mkV v L P E) q q (decide (nI i = z)) = mkV v L' P' E ∧ _
      rw [decide_eq_false nz]
      refine ln_put hm hN hk hI0 hi e2 ((hE.and e3).congr (fun b hb => ?_)) (jn_Val e4 e4 false)
      show (fullR (mV v i) b && L.2 q b) = (L.2 q b && L.2 q b)
      rw [Bool.and_comm, e4.full hb, Bool.and_self]
  | true =>
    obtain ⟨p, d1, d2, d3, d4⟩ := slot_in hm f2 la Ba i16 ta
    cases tb : hb.testBit i with
    | false =>
      have nz : ¬ nI i = z := fun q => by rw [(hz i i16 q).2] at tb; cases tb
      rw [po_fr hm f2 lb, po_no hm Bb i16 tb, decide_eq_false nz, if_neg (by decide), d1, if_pos rfl, if_neg (by decide)]
      show ∃ L' P', m_ln1 (mkV v L P E) p p (decide (nI i = z)) = mkV v L' P' E ∧ _
      rw [decide_eq_false nz]
      refine ln_put hm hN hk hI0 hi d2 ((d3.and hE).congr (fun b hb => ?_)) (jn_Val d4 d4 false)
      show (L.2 p b && fullR (mV v i) b) = (L.2 p b && L.2 p b)
      rw [d4.full hb, Bool.and_self]
    | true =>
      obtain ⟨q, e1, e2, e3, e4⟩ := slot_in hm f2 lb Bb i16 tb
      rw [d1, e1, if_pos rfl, if_pos rfl]
      exact ln_put hm hN hk hI0 hi d2 (jn_PR d3 e3 _) (jn_Val d4 e4 _)
theorem ln_loop {u : US} {v : MS} {E : DS} {a b ha hb : Nat} {z : Int32} (hm : mOk v) (hN : RelN u v) (hk : mB v < 300) (la : a < mB v) (lb : b < mB v) (Ba : BarP u v a ha) (Bb : BarP u v b hb) (hz : ∀ i, i < 16 → nI i = z → ha.testBit i = true ∧ hb.testBit i = true) : ∀ (n i : Nat) (c : CS) (L : SLt) (P : Nat → Nat), i + n = mN v → LI u v E i c L P → ∃ L' P', m_lnl a b z n i (mkV v L P E) = mkV v L' P' E ∧ LI u v E (i + n) (d_ll u (nI a) (nI b) z (nI (mB v)) n i c) L' P' := by
  intro n
  induction n with
  | zero => intro i c L P _ h; exact ⟨L, P, rfl, h⟩
  | succ n ih =>
    intro i c L P hi h
    obtain ⟨L1, P1, e1, h1⟩ := ln_step hm hN hk la lb Ba Bb hz h (by omega)
    rw [m_lnl, e1, d_ll, show i + (n + 1) = i + 1 + n by omega]
    exact ih (i + 1) _ L1 P1 (by omega) h1
theorem rel_learn : H_learn Rel := fun u v x y z h => by
  have hR0 := h
  obtain ⟨hm, hN, hT, hR, hC, hH, hG⟩ := h
  have h16 := hm.1.1
  have h3 := hm.1.2.2.1
  unfold d_learnC m_learn m_lnOk
  rcases hasIx_cases (n := mB v) (by omega) x with e | ⟨a, la, ex, ec, e⟩
  · rw [holds_k (by rw [hC.1]; exact e), if_neg (by decide), if_neg (by rw [if_neg (by rw [e]; decide)]; decide)]
    exact ⟨rfl, hR0⟩
  · rcases hasIx_cases (n := mB v) (by omega) y with f | ⟨b, lb, fy, fc, f⟩
    · have q2 : ¬ c_holds (uC u) y z = true := by rw [holds_k (c := uC u) (K := y) (x := z) (by rw [hC.1]; exact f)]; decide
      have q3 : ¬ hasIx (mB v) y = true := by rw [f]; decide
      rw [if_pos e, if_neg q3, if_neg q2, if_neg (show ¬ (false = true) by decide)]
      by_cases q : c_holds (uC u) x z = true
      · rw [if_pos q]; exact ⟨rfl, hR0⟩
      · rw [if_neg q]; exact ⟨rfl, hR0⟩
    · rw [if_pos e, if_pos f, ec, fc]
      subst ex fy
      have pa := holds_po hR0 la z
      have pb := holds_po hR0 lb z
      by_cases q1 : c_holds (uC u) (nI a) z = true
      · by_cases q2 : c_holds (uC u) (nI b) z = true
        · rw [if_pos q1, if_pos q2, if_neg (pa.mp q1), if_neg (pb.mp q2), hC.1]
          by_cases h6 : nI (mB v) = 300
          · rw [if_pos ((i300 h3).mpr h6), if_pos h6, if_neg (by decide)]
            exact ⟨rfl, hR0⟩
          · rw [if_neg (fun q => h6 ((i300 h3).mp q)), if_neg h6, if_pos rfl]
            refine ⟨rfl, ?_⟩
            have hk : mB v < 300 := Nat.lt_of_le_of_ne h3 (fun q => h6 (by rw [q]; rfl))
            obtain ⟨⟨ha, Ba⟩, -⟩ := hC.2 a la
            obtain ⟨⟨hb, Bb⟩, -⟩ := hC.2 b lb
            obtain ⟨f1, f2, f3, f4⟩ := fr_add hC.1 hk (-1) 0
            have fM := fr_begin (v := v) hm (E := (upd (dN (mE v)) (mB v) (-1), (mE v).2)) (fun j hj => by
              have : j ≠ mB v := by omega
              exact ⟨by show upd (dN (mE v)) (mB v) (-1) j = _; simp [upd, this], rfl, rfl, rfl, rfl, rfl⟩)
            have hz : ∀ i, i < 16 → nI i = z → ha.testBit i = true ∧ hb.testBit i = true := fun i hi q => by
              subst q
              exact ⟨by rw [← holds_eq hm hC la Ba hi]; exact q1, by rw [← holds_eq hm hC lb Bb hi]; exact q2⟩
            obtain ⟨L', P', e1, g1, g2, g3, h', g4, g5⟩ := ln_loop hm hN hk la lb Ba Bb hz (mN v) 0 (c_add (uC u) (-1) 0).2 (mL v) (updN (mP v) (mB v) 0) (by omega) ⟨f1, fM, f3, 0, bar_0 (u := u) f2, fun y hy => by rw [Nat.zero_testBit] at hy; cases hy⟩
            have e1 : m_lnl a b z (mN v) 0 (m_begin v) = mkV v L' P' (upd (dN (mE v)) (mB v) (-1), (mE v).2) := e1
            show Rel (wC u (d_ll u (nI a) (nI b) z (nI (mB v)) (uN u).1 0 (c_add (uC u) (-1) 0).2)) (addBar (m_lnl a b z (mN v) 0 (m_begin v)))
            rw [e1, hN.1]
            refine fin_bar hR0 hk g1 g2 g4 (Or.inl ⟨g3, ?_⟩)
            show upd (dN (mE v)) (mB v) (-1) (mB v) = -1
            simp [upd]
        · rw [if_pos q1, if_neg q2]
          have : fI (m_po v b z) = -1 := by
            by_cases q : fI (m_po v b z) = -1
            · exact q
            · exact absurd (pb.mpr q) q2
          rw [if_pos this]
          by_cases h6 : nI (mB v) = 300
          · rw [if_pos h6, if_neg (by decide)]; exact ⟨rfl, hR0⟩
          · rw [if_neg h6, if_neg (pa.mp q1), if_neg (by decide)]; exact ⟨rfl, hR0⟩
      · rw [if_neg q1]
        have : fI (m_po v a z) = -1 := by
          by_cases q : fI (m_po v a z) = -1
          · exact q
          · exact absurd (pa.mpr q) q1
        rw [if_pos this]
        by_cases h6 : nI (mB v) = 300
        · rw [if_pos h6, if_neg (by decide)]; exact ⟨rfl, hR0⟩
        · rw [if_neg h6, if_neg (by decide)]; exact ⟨rfl, hR0⟩
