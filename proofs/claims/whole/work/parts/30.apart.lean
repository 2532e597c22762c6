/-! a part is put into a bar -/
abbrev mkV (v : MS) (L : SLt) (P : Nat → Nat) (E : DS) : MS := (v.1, v.2.1, L, P, E, v.2.2.2.2.2.1, v.2.2.2.2.2.2)
theorem ins_spec (base t : Nat) : ∀ (i : Nat) (s : SLt), (∀ t, s.1 t < 16) → (t < base ∨ base + i < t) → (∀ t', (t' ≤ base + (m_ins base t i s).2 ∨ base + i < t') → Same s (m_ins base t i s).1 t') ∧ (∀ j, (m_ins base t i s).2 ≤ j → j < i → (m_ins base t i s).1.1 (base + j + 1) = s.1 (base + j) ∧ ∀ b, b < 49 → s.2 (base + j) b = (m_ins base t i s).1.2 (base + j + 1) b) ∧ (∀ j, j + 1 = (m_ins base t i s).2 → s.1 (base + j) ≤ s.1 t) ∧ (∀ j, (m_ins base t i s).2 ≤ j → j < i → s.1 t < s.1 (base + j)) := by
  intro i
  induction i with
  | zero => intro s _ _; exact ⟨fun t' _ => ⟨rfl, rfl⟩, fun j _ h => by omega, fun j h => absurd h (Nat.succ_ne_zero j), fun j _ h => absurd h (Nat.not_lt_zero j)⟩
  | succ i ih =>
    intro s hs ht
    have n1 := hs (base + i)
    have n2 := hs t
    rw [m_ins]
    by_cases c : nI (s.1 (base + i)) ≤ nI (s.1 t)
    · rw [if_pos c]
      refine ⟨fun t' _ => ⟨rfl, rfl⟩, fun j h1 h2 => ?_, fun j h => ?_, fun j h1 h2 => ?_⟩
      · have h1 : i + 1 ≤ j := h1
        omega
      · have e : j = i := by
          have h : j + 1 = i + 1 := h
          omega
        subst e
        rcases Nat.lt_or_ge (s.1 t) (s.1 (base + j)) with q | q
        · exact absurd c (nI_ge q (by omega))
        · exact q
      · have h1 : i + 1 ≤ j := h1
        omega
    · rw [if_neg c]
      have hlt : s.1 t < s.1 (base + i) := by
        rcases Nat.lt_or_ge (s.1 t) (s.1 (base + i)) with q | q
        · exact q
        · exact absurd (nI_le q (by omega)) c
      have hS : ∀ t', t' ≠ base + (i + 1) → Same s (m_copy s (base + (i + 1)) (base + i)) t' := fun t' h => same_set h
      obtain ⟨a1, a2, a3, a4⟩ := ih (m_copy s (base + (i + 1)) (base + i)) (copy_nm hs) (by omega)
      have hle := ins_le base t i (m_copy s (base + (i + 1)) (base + i))
      have et : (m_copy s (base + (i + 1)) (base + i)).1 t = s.1 t := (hS t (by omega)).1
      have e0 : (m_copy s (base + (i + 1)) (base + i)).1 (base + (i + 1)) = s.1 (base + i) := updN_s _ _ _
      have e1 : ∀ b, b < 49 → (m_copy s (base + (i + 1)) (base + i)).2 (base + (i + 1)) b = s.2 (base + i) b := fun b hb => setU_in _ _ _ hb
      generalize m_copy s (base + (i + 1)) (base + i) = s2 at hS a1 a2 a3 a4 hle et e0 e1 ⊢
      generalize m_ins base t i s2 = r at a1 a2 a3 a4 hle ⊢
      refine ⟨fun t' h => ?_, fun j h1 h2 => ?_, fun j h => ?_, fun j h1 h2 => ?_⟩
      · have b1 := a1 t' (by omega)
        have b2 := hS t' (by omega)
        exact ⟨b1.1.trans b2.1, b1.2.trans b2.2⟩
      · by_cases e : j = i
        · subst e
          have b1 := a1 (base + (j + 1)) (Or.inr (by omega))
          refine ⟨?_, fun b hb => ?_⟩
          · show r.1.1 (base + (j + 1)) = _
            rw [b1.1, e0]
          · show _ = r.1.2 (base + (j + 1)) b
            rw [b1.2, e1 b hb]
        · obtain ⟨b1, b2⟩ := a2 j h1 (by omega)
          have b3 := hS (base + j) (by omega)
          exact ⟨b1.trans b3.1, fun b hb => by rw [← b3.2]; exact b2 b hb⟩
      · have := a3 j h
        rw [et, (hS (base + j) (by omega)).1] at this
        exact this
      · by_cases e : j = i
        · subst e; exact hlt
        · have := a4 j h1 (by omega)
          rw [et, (hS (base + j) (by omega)).1] at this
          exact this
theorem slot_copy {v : MS} {L L' : SLt} {P P' : Nat → Nat} {E E' : DS} {t t' x : Nat} {p : Int64} (h : SlotR (mkV v L P E) t x p) (h1 : L'.1 t' = L.1 t) (h2 : ∀ b, b < 49 → L.2 t b = L'.2 t' b) : SlotR (mkV v L' P' E') t' x p := by
  obtain ⟨a1, a2, a3, a4⟩ := h
  exact ⟨h1.trans a1, a2, a3.congr h2, a4.congr h2⟩
/-- full, or everywhere -/
theorem full_iff {u : US} {v : MS} (hm : mOk v) (hN : RelN u v) {L : SLt} {P : Nat → Nat} {E : DS} {t x : Nat} {p : Int64} (h : SlotR (mkV v L P E) t x p) : m_isFull (mV v) L t = true ↔ p = n_ev (uN u) (nI x) := by
  obtain ⟨a1, a2, a3, a4⟩ := h
  have a1 : L.1 t = x := a1
  have a3 : PR p (L.2 t) := a3
  have a4 : Val (mV v x) (L.2 t) := a4
  have hE := ev_PR hm hN a2
  have hk := hm.2.1 x
  unfold m_isFull
  rw [all_iff, a1]
  constructor
  · intro h
    refine PR.eq (a3.congr (fun b hb => ?_)) hE
    unfold fullR
    by_cases c : b ≤ mV v x
    · rw [decide_eq_true c]; exact h b (by omega)
    · rw [decide_eq_false c]
      have := a4 (b - 1) (by omega) (by omega)
      rw [show b - 1 + 1 = b by omega] at this
      exact this
  · intro h b hb
    rw [h] at a3
    rw [a3.row hE b (by omega)]
    exact decide_eq_true (by omega)
def FrC (k : Nat) (c0 c : CS) : Prop := c.1 = k + 1 ∧ (∀ j, j < k → cH c j = cH c0 j ∧ cO c j = cO c0 j ∧ cR c j = cR c0 j) ∧ ∀ j, j < k * 16 → cP c j = cP c0 j
def FrM (v : MS) (k : Nat) (L : SLt) (P : Nat → Nat) (E : DS) : Prop := (∀ t, (t < 600 + 16 * k ∨ (5400 ≤ t ∧ t ≠ 5416)) → Same (mL v) L t) ∧ (∀ j, j < k → P j = mP v j) ∧ (∀ j, j < k → dN E j = dN (mE v) j ∧ dF E j = dF (mE v) j ∧ dL E j = dL (mE v) j ∧ dO E j = dO (mE v) j ∧ dK E j = dK (mE v) j ∧ dS E j = dS (mE v) j) ∧ (∀ t, L.1 t < 16) ∧ ∀ j, P j ≤ 16
/-- a finished bar -/
theorem fin_bar {u : US} {v : MS} {c : CS} {L : SLt} {P : Nat → Nat} {E : DS} {h : Nat} (hR : Rel u v) (hk : mB v < 300) (fC : FrC (mB v) (uC u) c) (fM : FrM v (mB v) L P E) (hb : BarP (wC u c) (mkV v L P E) (mB v) h) (hd : BarD (wC u c) (mkV v L P E) (mB v)) : Rel (wC u c) (addBar (mkV v L P E)) := by
  obtain ⟨hm, hN, hT, hRr, hC, hH, hG⟩ := hR
  obtain ⟨f1, f2, f3⟩ := fC
  obtain ⟨g1, g2, g3, g4, g5⟩ := fM
  have h600 := hm.1.2.1
  have h16 := hm.1.1
  refine ⟨⟨⟨hm.1.1, hm.1.2.1, hk, hm.1.2.2.2⟩, hm.2.1, g4, hm.2.2.2.1, g5⟩, hN, ⟨hT.1, fun t ht => ?_⟩, hRr, ⟨f1, fun j hj => ?_⟩, fun i hi => ?_, hG⟩
  · obtain ⟨x, e, a⟩ := hT.2 t ht
    have ht : t < mT v := ht
    exact ⟨x, e, a.mono (g1 t (by omega)).1 (g1 t (by omega)).2 (Nat.le_refl _) rfl⟩
  · have hj : j < mB v + 1 := hj
    by_cases e : j = mB v
    · subst e
      exact ⟨⟨h, hb⟩, hd⟩
    · have hj2 : j < mB v := by omega
      obtain ⟨⟨hh, b1, b2, b3, b4, b5, b6⟩, d⟩ := hC.2 j hj2
      obtain ⟨c1, c2, c3⟩ := f2 j hj2
      obtain ⟨e1, e2, e3, e4, e5, e6⟩ := g3 j hj2
      have hP := g2 j hj2
      have eL : ∀ i, i < mP v j → Same (mL v) L (600 + 16 * j + i) := fun i hi => g1 _ (by omega)
      refine ⟨⟨hh, c1.trans b1, b2, fun i hi => ?_, fun i i2 h1 h2 => ?_, fun x hx hx2 => ?_, ?_⟩, ?_⟩
      · have hi : i < P j := hi
        rw [hP] at hi
        obtain ⟨s1, s2⟩ := b3 i hi
        have hn := hm.2.2.1 (600 + 16 * j + i)
        show hh.testBit (L.1 (600 + 16 * j + i)) = true ∧ SlotR (addBar (mkV v L P E)) (600 + 16 * j + i) (L.1 (600 + 16 * j + i)) (cP c (j * 16 + L.1 (600 + 16 * j + i)))
        rw [(eL i hi).1, f3 _ (by omega)]
        exact ⟨s1, s2.mono (eL i hi).1 (eL i hi).2 (Nat.le_refl _) rfl⟩
      · have h2 : i2 < P j := h2
        rw [hP] at h2
        show L.1 (600 + 16 * j + i) < L.1 (600 + 16 * j + i2)
        rw [(eL i (by omega)).1, (eL i2 h2).1]
        exact b4 i i2 h1 h2
      · obtain ⟨i, hi, ei⟩ := b5 x hx hx2
        exact ⟨i, by show i < P j; rw [hP]; exact hi, (eL i hi).1.trans ei⟩
      · show P j ≤ 16
        exact g5 j
      · rcases d with d | ⟨r, hr, d1, d2, d3, d4, d5, d6, d7, d8⟩
        · exact Or.inl ⟨c2.trans d.1, e1.trans d.2⟩
        · refine Or.inr ⟨r, hr, c2.trans d1, e1.trans d2, e4.trans d3, e6.trans d4, e5.trans d5, ?_, ?_, fun b hb => ?_⟩
          · show dF E j < 48
            rw [e2]; exact d6
          · show dL E j < 48
            rw [e3]; exact d7
          · show bq (cR c j) b = decide (dF E j ≤ b ∧ b ≤ dL E j)
            rw [c3, e2, e3]; exact d8 b hb
  · have hi : i < mN v := hi
    exact (hH i hi).mono (g1 _ (by omega)).1 (g1 _ (by omega)).2 (Nat.le_refl _) rfl
theorem barP_lt {u : US} {v : MS} {k h x : Nat} (hm : ∀ t, (mL v).1 t < 16) (hb : BarP u v k h) (hx : x < 16) (hn : h.testBit x = false) : mP v k < 16 := by
  obtain ⟨a1, a2, a3, a4, a5, a6⟩ := hb
  have e : cntB h.testBit 16 = mP v k := cnt_nm (nm := fun i => (mL v).1 (600 + 16 * k + i)) (fun i hi => (a3 i hi).1) a4 a5 16 _ (Nat.le_refl _) (Nat.le_refl _) (fun j hj => hm _) (fun j h1 h2 => by omega)
  have l := cnt_lt (P := fun _ => true) (Q := h.testBit) (n := 16) (fun _ _ _ => rfl) ⟨x, hx, rfl, hn⟩
  rw [e] at l
  exact l
theorem ap_step {u : US} {v : MS} {c : CS} {L : SLt} {P : Nat → Nat} {E : DS} {h x : Nat} {p : Int64} (hm : mOk v) (hN : RelN u v) (hk : mB v < 300) (fC : FrC (mB v) (uC u) c) (fM : FrM v (mB v) L P E) (hb : BarP (wC u c) (mkV v L P E) (mB v) h) (hx : SlotR (mkV v L P E) 5416 x p) (hn : h.testBit x = false) :
    ∃ L' P' h', m_ap (mkV v L P E) 5416 = mkV v L' P' E ∧ FrC (mB v) (uC u) (d_ppC (wC u c) (nI (mB v)) (nI x) p) ∧ FrM v (mB v) L' P' E ∧ BarP (wC u (d_ppC (wC u c) (nI (mB v)) (nI x) p)) (mkV v L' P' E) (mB v) h' ∧ (∀ y, h'.testBit y = true → h.testBit y = true ∨ y = x) ∧ cO (d_ppC (wC u c) (nI (mB v)) (nI x) p) (mB v) = cO c (mB v) ∧ cR (d_ppC (wC u c) (nI (mB v)) (nI x) p) (mB v) = cR c (mB v) := by
  have hf := full_iff hm hN hx
  have h16 := hm.1.1
  have hx16 : x < 16 := Nat.lt_of_lt_of_le hx.2.1 h16
  by_cases full : m_isFull (mV v) L 5416 = true
  · have e : d_ppC (wC u c) (nI (mB v)) (nI x) p = c := by rw [d_ppC, if_pos (hf.mp full)]
    rw [e]
    exact ⟨L, P, h, by rw [m_ap, if_pos full], fC, fM, hb, fun y hy => Or.inl hy, rfl, rfl⟩
  · obtain ⟨g1, g2, g3, g4, g5⟩ := fM
    obtain ⟨f1, f2, f3⟩ := fC
    have hP16 : P (mB v) < 16 := barP_lt (v := mkV v L P E) g4 hb hx16 hn
    obtain ⟨a1, a2, a3, a4, a5, a6⟩ := hb
    have a1 : cH c (mB v) = nI h := a1
    have e : d_ppC (wC u c) (nI (mB v)) (nI x) p = (c.1, upd (cH c) (mB v) (nI (h ||| 2 ^ x)), vp_updL (cP c) (mB v * 16 + x) p, cO c, cR c) := by
      rw [d_ppC, if_neg (fun q => full (hf.mpr q)), c_put, if_pos (by rw [f1]; exact hasIx_nI (by omega) (by omega)), if_pos (in16_j hx16), nI_clamp (by omega), nI_clamp (by omega), a1, onb x hx16, nx_or]
    obtain ⟨i1, i2, i3, i4⟩ := ins_spec (600 + 16 * mB v) 5416 (P (mB v)) L g4 (by omega)
    have i5 := ins_le (600 + 16 * mB v) 5416 (P (mB v)) L
    have eA : m_ap (mkV v L P E) 5416 = mkV v (m_copy (m_ins (600 + 16 * mB v) 5416 (P (mB v)) L).1 (600 + 16 * mB v + (m_ins (600 + 16 * mB v) 5416 (P (mB v)) L).2) 5416) (updN P (mB v) (P (mB v) + 1)) E := by
      rw [m_ap, if_neg full]; rfl
    have nmI := ins_nm (600 + 16 * mB v) 5416 (P (mB v)) L g4
    rw [eA, e]
    generalize m_ins (600 + 16 * mB v) 5416 (P (mB v)) L = r at i1 i2 i3 i4 i5 nmI ⊢
    obtain ⟨s, q⟩ := r
    have i1 : ∀ t', (t' ≤ 600 + 16 * mB v + q ∨ 600 + 16 * mB v + P (mB v) < t') → Same L s t' := i1
    have i2 : ∀ j, q ≤ j → j < P (mB v) → s.1 (600 + 16 * mB v + j + 1) = L.1 (600 + 16 * mB v + j) ∧ ∀ b, b < 49 → L.2 (600 + 16 * mB v + j) b = s.2 (600 + 16 * mB v + j + 1) b := i2
    have i3 : ∀ j, j + 1 = q → L.1 (600 + 16 * mB v + j) ≤ L.1 5416 := i3
    have i4 : ∀ j, q ≤ j → j < P (mB v) → L.1 5416 < L.1 (600 + 16 * mB v + j) := i4
    have i5 : q ≤ P (mB v) := i5
    have nmI : ∀ t, s.1 t < 16 := nmI
    have hx1 : L.1 5416 = x := hx.1
    show ∃ L' P' h', mkV v (m_copy s (600 + 16 * mB v + q) 5416) (updN P (mB v) (P (mB v) + 1)) E = mkV v L' P' E ∧ _
    refine ⟨m_copy s (600 + 16 * mB v + q) 5416, updN P (mB v) (P (mB v) + 1), h ||| 2 ^ x, rfl, ⟨f1, fun j hj => ?_, fun j hj => ?_⟩, ⟨fun t ht => ?_, fun j hj => ?_, g3, copy_nm nmI, updN_le g5 (by omega)⟩, ?_, fun y hy => ?_, rfl, rfl⟩
    · refine ⟨?_, (f2 j hj).2⟩
      rw [← (f2 j hj).1]
      show upd (cH c) (mB v) (nI (h ||| 2 ^ x)) j = _
      have : j ≠ mB v := by omega
      simp [upd, this]
    · rw [← f3 j hj]
      show vp_updL (cP c) (mB v * 16 + x) p j = _
      have : j ≠ mB v * 16 + x := by omega
      simp [vp_updL, this]
    · have b0 := g1 t ht
      have b1 := i1 t (by omega)
      have b2 : Same s (m_copy s (600 + 16 * mB v + q) 5416) t := same_set (by omega)
      exact ⟨b2.1.trans (b1.1.trans b0.1), b2.2.trans (b1.2.trans b0.2)⟩
    · rw [← g2 j hj]
      have : j ≠ mB v := by omega
      simp [updN, this]
    · -- the bar itself
      have k5 := i1 5416 (Or.inr (by omega))
      have A : ∀ j, j < q → Same L (m_copy s (600 + 16 * mB v + q) 5416) (600 + 16 * mB v + j) := fun j hj => by
        have b1 := i1 (600 + 16 * mB v + j) (by omega)
        have b2 : Same s (m_copy s (600 + 16 * mB v + q) 5416) (600 + 16 * mB v + j) := same_set (by omega)
        exact ⟨b2.1.trans b1.1, b2.2.trans b1.2⟩
      have B : (m_copy s (600 + 16 * mB v + q) 5416).1 (600 + 16 * mB v + q) = x ∧ ∀ b, b < 49 → L.2 5416 b = (m_copy s (600 + 16 * mB v + q) 5416).2 (600 + 16 * mB v + q) b := by
        refine ⟨?_, fun b hb => ?_⟩
        · show updN s.1 (600 + 16 * mB v + q) (s.1 5416) (600 + 16 * mB v + q) = x
          rw [updN_s, k5.1, hx1]
        · show _ = setU s.2 (600 + 16 * mB v + q) (s.2 5416) 49 (600 + 16 * mB v + q) b
          rw [setU_in _ _ _ hb, k5.2]
      have C : ∀ j, q ≤ j → j < P (mB v) → (m_copy s (600 + 16 * mB v + q) 5416).1 (600 + 16 * mB v + (j + 1)) = L.1 (600 + 16 * mB v + j) ∧ ∀ b, b < 49 → L.2 (600 + 16 * mB v + j) b = (m_copy s (600 + 16 * mB v + q) 5416).2 (600 + 16 * mB v + (j + 1)) b := fun j h1 h2 => by
        have b1 := i2 j h1 h2
        have b2 : Same s (m_copy s (600 + 16 * mB v + q) 5416) (600 + 16 * mB v + (j + 1)) := same_set (by omega)
        exact ⟨b2.1.trans b1.1, fun b hb => by rw [b2.2]; exact b1.2 b hb⟩
      generalize m_copy s (600 + 16 * mB v + q) 5416 = L2 at A B C ⊢
      have hne : ∀ j, j < P (mB v) → L.1 (600 + 16 * mB v + j) ≠ x := fun j hj e => by
        have := (a3 j hj).1
        rw [show (mL (mkV v L P E)).1 (600 + 16 * mB v + j) = x from e, hn] at this
        cases this
      have a4 : ∀ i j, i < j → j < P (mB v) → L.1 (600 + 16 * mB v + i) < L.1 (600 + 16 * mB v + j) := a4
      have lo : ∀ j, j < q → L.1 (600 + 16 * mB v + j) < x := fun j hj => by
        have b1 := i3 (q - 1) (by omega)
        have b2 := hne (q - 1) (by omega)
        by_cases e : j = q - 1
        · rw [e]; omega
        · have := a4 j (q - 1) (by omega) (by omega); omega
      have hi : ∀ j, q ≤ j → j < P (mB v) → x < L.1 (600 + 16 * mB v + j) := fun j h1 h2 => by rw [← hx1]; exact i4 j h1 h2
      have cPo : ∀ y, y ≠ x → vp_updL (cP c) (mB v * 16 + x) p (mB v * 16 + y) = cP c (mB v * 16 + y) := fun y hy => by
        have : ¬ mB v * 16 + y = mB v * 16 + x := by omega
        simp only [vp_updL, if_neg this]
      have old : ∀ j t', j < P (mB v) → L2.1 t' = L.1 (600 + 16 * mB v + j) → (∀ b, b < 49 → L.2 (600 + 16 * mB v + j) b = L2.2 t' b) → (h ||| 2 ^ x).testBit (L2.1 t') = true ∧ SlotR (mkV v L2 (updN P (mB v) (P (mB v) + 1)) E) t' (L2.1 t') (vp_updL (cP c) (mB v * 16 + x) p (mB v * 16 + L2.1 t')) := fun j t' hj e1 e2 => by
        obtain ⟨b1, b2⟩ := a3 j hj
        have b1 : h.testBit (L.1 (600 + 16 * mB v + j)) = true := b1
        have b3 := slot_copy (L' := L2) (P' := updN P (mB v) (P (mB v) + 1)) (E' := E) b2 e1 e2
        rw [e1, cPo _ (hne j hj), or_bit, b1]
        exact ⟨rfl, b3⟩
      refine ⟨?_, or_lt a2 hx16, fun j hj => ?_, fun i j hij hj => ?_, fun y hy hb => ?_, ?_⟩
      · show upd (cH c) (mB v) (nI (h ||| 2 ^ x)) (mB v) = _
        simp [upd]
      · have hj : j < updN P (mB v) (P (mB v) + 1) (mB v) := hj
        rw [updN_s] at hj
        show (h ||| 2 ^ x).testBit (L2.1 (600 + 16 * mB v + j)) = true ∧ SlotR (mkV v L2 (updN P (mB v) (P (mB v) + 1)) E) (600 + 16 * mB v + j) (L2.1 (600 + 16 * mB v + j)) (vp_updL (cP c) (mB v * 16 + x) p (mB v * 16 + L2.1 (600 + 16 * mB v + j)))
        rcases Nat.lt_trichotomy j q with l | l | l
        · exact old j _ (by omega) (A j l).1 (fun b _ => by rw [(A j l).2])
        · subst l
          rw [B.1, or_bit, decide_eq_true rfl, Bool.or_true]
          refine ⟨rfl, ?_⟩
          rw [show vp_updL (cP c) (mB v * 16 + x) p (mB v * 16 + x) = p by simp [vp_updL]]
          exact slot_copy hx (B.1.trans hx1.symm) B.2
        · have c1 := C (j - 1) (by omega) (by omega)
          rw [show j - 1 + 1 = j by omega] at c1
          exact old (j - 1) _ (by omega) c1.1 c1.2
      · have hj : j < updN P (mB v) (P (mB v) + 1) (mB v) := hj
        rw [updN_s] at hj
        show L2.1 (600 + 16 * mB v + i) < L2.1 (600 + 16 * mB v + j)
        have ei : ∀ i, q < i → i < P (mB v) + 1 → L2.1 (600 + 16 * mB v + i) = L.1 (600 + 16 * mB v + (i - 1)) := fun i h1 h2 => by
          have c1 := C (i - 1) (by omega) (by omega)
          rw [show i - 1 + 1 = i by omega] at c1
          exact c1.1
        rcases Nat.lt_trichotomy i q with l | l | l
        · rw [(A i l).1]
          rcases Nat.lt_trichotomy j q with l2 | l2 | l2
          · rw [(A j l2).1]; exact a4 i j hij (by omega)
          · rw [l2, B.1]; exact lo i l
          · rw [ei j l2 hj]
            have b1 := lo i l
            have b2 := hi (j - 1) (by omega) (by omega)
            omega
        · rw [l, B.1, ei j (by omega) hj]
          exact hi (j - 1) (by omega) (by omega)
        · rw [ei i l (by omega), ei j (by omega) hj]
          exact a4 _ _ (by omega) (by omega)
      · rw [or_bit, Bool.or_eq_true] at hb
        rcases hb with hb | hb
        · obtain ⟨i, b1, b2⟩ := a5 y hy hb
          have b1 : i < P (mB v) := b1
          have b2 : L.1 (600 + 16 * mB v + i) = y := b2
          rcases Nat.lt_or_ge i q with l | l
          · refine ⟨i, ?_, (A i l).1.trans b2⟩
            show i < updN P (mB v) (P (mB v) + 1) (mB v)
            rw [updN_s]; omega
          · refine ⟨i + 1, ?_, (C i l b1).1.trans b2⟩
            show i + 1 < updN P (mB v) (P (mB v) + 1) (mB v)
            rw [updN_s]; omega
        · have e := of_decide_eq_true hb
          refine ⟨q, ?_, B.1.trans e⟩
          show q < updN P (mB v) (P (mB v) + 1) (mB v)
          rw [updN_s]; omega
      · show updN P (mB v) (P (mB v) + 1) (mB v) ≤ 16
        rw [updN_s]; omega
    · rw [or_bit, Bool.or_eq_true] at hy
      rcases hy with hy | hy
      · exact Or.inl hy
      · exact Or.inr (of_decide_eq_true hy).symm
