/-! derive -/
def al0 (q : QS) (k y : Nat) : Bool := if nI (qN q k) = nI (qN q y) then (if nI (qO q k) = nI (qO q y) then (if qS q k = qS q y then (if qK q k = qK q y then true else false) else false) else false) else false
theorem al_al0 (q : QS) (k b y : Nat) : m_al q k b y = (al0 q k y && decide (nI (qV q k) = nI b)) := by
  unfold m_al al0
  by_cases h1 : nI (qN q k) = nI (qN q y)
  · rw [if_pos h1, if_pos h1]
    by_cases h2 : nI (qV q k) = nI b
    · rw [if_pos h2, decide_eq_true h2, Bool.and_true]
    · rw [if_neg h2, decide_eq_false h2, Bool.and_false]
  · rw [if_neg h1, if_neg h1]; rfl
section DV
variable {u : US} {v : MS} {y : Nat}
theorem alike_eq (hm : mOk v) (hR : RelR u v) {k : Nat} (hk : k < mD v) (hy : y < mD v) : r_alike (uR u) (nI k) (nI y) = al0 (mQ v) k y := by
  have h4 := hm.1.2.2.2
  obtain ⟨a1, a2, a3, a4, a5, -⟩ := hR.2 k hk
  obtain ⟨b1, b2, b3, b4, b5, -⟩ := hR.2 y hy
  unfold r_alike al0
  rw [if_pos (by rw [hR.1]; exact hasIx_nI (by omega) hk), if_pos (by rw [hR.1]; exact hasIx_nI (by omega) hy), nI_clamp (by omega), nI_clamp (by omega), a1, a3, a4, a5, b1, b3, b4, b5]
theorem vlk_bits (hm : mOk v) (hR : RelR u v) (hy : y < mD v) : ∀ k, k ≤ mD v → ∀ b, b < 48 → bq (r_vlk (uR u) (nI y) k) b = anyB (fun j => m_al (mQ v) j b y) k := by
  intro k
  induction k with
  | zero => intro _ b _; rw [r_vlk, bq_0]; rfl
  | succ k ih =>
    intro hk b hb
    have hv := (hm.2.2.2.1 k).2.1
    rw [r_vlk, anyB, ← ih (by omega) b hb, alike_eq hm hR (by omega) hy, al_al0, (hR.2 k (by omega)).2.1]
    cases al0 (mQ v) k y with
    | false => rw [if_neg (by decide), Bool.false_and, Bool.or_false]
    | true =>
      rw [if_pos rfl, bq_or, bq_bit _ (by omega) b (by omega), Bool.true_and]
      congr 1
      apply decide_eq_decide.mpr
      constructor
      · intro e; rw [e]
      · intro e; exact ((nI_eq (by omega) (by omega)).mp e).symm
theorem hv_has (hm : mOk v) (hR : RelR u v) (hy : y < mD v) {b : Nat} (hb : b < 48) : s_hv (r_vl (uR u) (nI y)) (nI b) = m_has v b y := by
  rw [hv_bq _ hb, r_vl, hR.1, vlk_bits hm hR hy _ (Nat.le_refl _) b hb]
  rfl
theorem dn_bits {vs : Int64} (hs : ∀ b, b < 48 → s_hv vs (nI b) = m_has v b y) : ∀ (f : Nat) (r : Int64), f ≤ 48 → ∀ b, b < 64 → bq (ra_dn vs f r) b = (bq r b || decide (m_fst v y f ≤ b ∧ b < f)) := by
  intro f
  induction f with
  | zero => intro r _ b _; rw [ra_dn, decide_eq_false (by omega), Bool.or_false]
  | succ f ih =>
    intro r hf b hb
    have hl := fst_le v y f
    rw [ra_dn, m_fst, hs f (by omega)]
    cases m_has v f y with
    | false => rw [if_neg (by decide), if_neg (by decide), decide_eq_false (by omega), Bool.or_false]
    | true =>
      rw [if_pos rfl, if_pos rfl, ih _ (by omega) b hb, bq_or, bq_bit f (by omega) b hb, Bool.or_assoc]
      congr 1
      by_cases e : b = f
      · rw [decide_eq_true e, decide_eq_true (show m_fst v y f ≤ b ∧ b < f + 1 by omega)]; rfl
      · rw [decide_eq_false e, Bool.false_or]
        exact decide_eq_decide.mpr (by omega)
theorem lst_ge (v : MS) (y : Nat) : ∀ n i, i ≤ m_lst v y n i := by
  intro n
  induction n with
  | zero => intro i; exact Nat.le_refl _
  | succ n ih =>
    intro i
    rw [m_lst]
    by_cases c : m_has v (i + 1) y = true
    · rw [if_pos c]; have := ih (i + 1); omega
    · rw [if_neg c]; exact Nat.le_refl _
theorem lst_has (v : MS) (y : Nat) : ∀ n i, m_lst v y n i = i ∨ m_has v (m_lst v y n i) y = true := by
  intro n
  induction n with
  | zero => intro i; exact Or.inl rfl
  | succ n ih =>
    intro i
    rw [m_lst]
    by_cases c : m_has v (i + 1) y = true
    · rw [if_pos c]
      rcases ih (i + 1) with e | e
      · exact Or.inr (by rw [e]; exact c)
      · exact Or.inr e
    · rw [if_neg c]; exact Or.inl rfl
theorem up_bits (hm : mOk v) {vs : Int64} (hs : ∀ b, b < 48 → s_hv vs (nI b) = m_has v b y) : ∀ (n i : Nat) (r : Int64), i + n = 47 → ∀ b, b < 64 → bq (ra_up vs n (i + 1) r) b = (bq r b || decide (i < b ∧ b ≤ m_lst v y (n + 1) i)) := by
  intro n
  induction n with
  | zero =>
    intro i r hi b _
    have e : m_has v (i + 1) y = false := by
      cases q : m_has v (i + 1) y with
      | false => rfl
      | true => have := has_lt hm (by omega) q; omega
    rw [ra_up, m_lst, e, if_neg (by decide), decide_eq_false (by omega), Bool.or_false]
  | succ n ih =>
    intro i r hi b hb
    have hg := lst_ge v y (n + 1) (i + 1)
    rw [ra_up, m_lst, hs (i + 1) (by omega)]
    cases m_has v (i + 1) y with
    | false => rw [if_neg (by decide), if_neg (by decide), decide_eq_false (by omega), Bool.or_false]
    | true =>
      rw [if_pos rfl, if_pos rfl, ih (i + 1) _ (by omega) b hb, bq_or, bq_bit (i + 1) (by omega) b hb, Bool.or_assoc]
      congr 1
      by_cases e : b = i + 1
      · rw [decide_eq_true e, decide_eq_true (show i < b ∧ b ≤ m_lst v y (n + 1) (i + 1) by omega)]; rfl
      · rw [decide_eq_false e, Bool.false_or]
        exact decide_eq_decide.mpr (by omega)
abbrev dvF (v : MS) (y : Nat) : Nat := m_fst v y (qV (mQ v) y)
abbrev dvL (v : MS) (y : Nat) : Nat := m_lst v y (48 - qV (mQ v) y) (qV (mQ v) y)
theorem run_bits (hm : mOk v) (hR : RelR u v) (hy : y < mD v) : ∀ b, b < 64 → bq (d_run u (nI y)) b = decide (dvF v y ≤ b ∧ b ≤ dvL v y) := by
  intro b hb
  have h4 := hm.1.2.2.2
  have hV := (hm.2.2.2.1 y).2.1
  have hs : ∀ b, b < 48 → s_hv (r_vl (uR u) (nI y)) (nI b) = m_has v b y := fun b hb => hv_has hm hR hy hb
  have e : (r_vr (uR u) (nI y)).toNatClampNeg = qV (mQ v) y := by
    rw [r_vr_nI (by rw [hR.1]; exact h4) (by rw [hR.1]; exact hy), (hR.2 y hy).2.1, nI_clamp (by omega)]
  have h1 := fst_le v y (qV (mQ v) y)
  have h2 := lst_ge v y (47 - qV (mQ v) y + 1) (qV (mQ v) y)
  show bq (d_run u (nI y)) b = decide (m_fst v y (qV (mQ v) y) ≤ b ∧ b ≤ m_lst v y (48 - qV (mQ v) y) (qV (mQ v) y))
  rw [d_run, s_ra, e, up_bits hm hs _ _ _ (by omega) b hb, dn_bits hs _ _ (by omega) b hb, bq_bit _ (by omega) b hb, show 48 - qV (mQ v) y = 47 - qV (mQ v) y + 1 by omega]
  by_cases c1 : b = qV (mQ v) y
  · rw [decide_eq_true c1, decide_eq_true (show m_fst v y (qV (mQ v) y) ≤ b ∧ b ≤ m_lst v y (47 - qV (mQ v) y + 1) (qV (mQ v) y) by omega)]; rfl
  · rw [decide_eq_false c1, Bool.false_or]
    by_cases c2 : b < qV (mQ v) y
    · rw [decide_eq_false (show ¬ (qV (mQ v) y < b ∧ b ≤ m_lst v y (47 - qV (mQ v) y + 1) (qV (mQ v) y)) by omega), Bool.or_false]
      exact decide_eq_decide.mpr (by omega)
    · rw [decide_eq_false (show ¬ (m_fst v y (qV (mQ v) y) ≤ b ∧ b < qV (mQ v) y) by omega), Bool.false_or]
      exact decide_eq_decide.mpr (by omega)
theorem has_V (hm : mOk v) (hR : RelR u v) {b : Nat} (hb : b < 48) (h : m_has v b y = true) : b < mV v (qN (mQ v) y) := by
  obtain ⟨k, hk, e⟩ := any_t h
  have e1 := al_ver e
  have hv := (hm.2.2.2.1 k).2.1
  have hn := (hm.2.2.2.1 k).1
  have hn2 := (hm.2.2.2.1 y).1
  have e2 := (nI_eq (by omega) (by omega)).mp e1
  have e3 : nI (qN (mQ v) k) = nI (qN (mQ v) y) := by
    unfold m_al at e
    by_cases q : nI (qN (mQ v) k) = nI (qN (mQ v) y)
    · exact q
    · rw [if_neg q] at e; cases e
  have e4 := (nI_eq (by omega) (by omega)).mp e3
  have := (hR.2 k hk).2.2.2.2.2.2.2.1
  rw [e2, e4] at this
  exact this
theorem dvL_lt (hm : mOk v) (hR : RelR u v) (hy : y < mD v) : dvL v y < mV v (qN (mQ v) y) ∧ dvL v y < 48 := by
  have hk := hm.2.1 (qN (mQ v) y)
  have hV := (hm.2.2.2.1 y).2.1
  have hr := (hR.2 y hy).2.2.2.2.2.2.2.1
  rcases lst_has v y (48 - qV (mQ v) y) (qV (mQ v) y) with e | e
  · show m_lst v y (48 - qV (mQ v) y) (qV (mQ v) y) < _ ∧ m_lst v y (48 - qV (mQ v) y) (qV (mQ v) y) < 48
    rw [e]; exact ⟨hr, hV⟩
  · have hlt : dvL v y < 2 ^ 31 := by
      have : ∀ n i, m_lst v y n i ≤ i + n := by
        intro n
        induction n with
        | zero => intro i; exact Nat.le_refl _
        | succ n ih =>
          intro i
          rw [m_lst]
          by_cases c : m_has v (i + 1) y = true
          · rw [if_pos c]; have := ih (i + 1); omega
          · rw [if_neg c]; omega
      have := this (48 - qV (mQ v) y) (qV (mQ v) y)
      show m_lst v y (48 - qV (mQ v) y) (qV (mQ v) y) < 2 ^ 31
      omega
    have h48 := has_lt hm hlt e
    exact ⟨has_V hm hR h48 e, h48⟩
end DV
theorem uL_bit : ∀ j, j < 63 → uL (s_bit (nI j)) = 2 ^ j := by decide +kernel
theorem runS_bits {f i : Nat} (hf : f ≤ i) (hi : i < 48) : ∀ b, b < 64 → bq (m_runS f i) b = decide (f ≤ b ∧ b ≤ i) := by
  intro b hb
  have e1 : nI i + 1 = nI (i + 1) := nI_1 i
  have hle : 2 ^ f ≤ 2 ^ (i + 1) := Nat.pow_le_pow_right (by decide) (by omega)
  have e : uL (m_runS f i) = 2 ^ f * (2 ^ (i + 1 - f) - 1) := by
    rw [m_runS, e1, uL_sub (by rw [uL_bit f (by omega), uL_bit (i + 1) (by omega)]; exact hle), uL_bit f (by omega), uL_bit (i + 1) (by omega), Nat.mul_sub, ← Nat.pow_add, Nat.mul_one, show f + (i + 1 - f) = i + 1 by omega]
  rw [← uL_bq, e, Nat.testBit_two_pow_mul, Nat.testBit_two_pow_sub_one]
  by_cases c : f ≤ b
  · rw [decide_eq_true (show b ≥ f from c), Bool.true_and]
    exact decide_eq_decide.mpr (by omega)
  · rw [decide_eq_false (show ¬ b ≥ f from c), decide_eq_false (show ¬ (f ≤ b ∧ b ≤ i) by omega)]; rfl
section DF
variable {u : US} {v : MS} {y : Nat}
theorem run_PR (hm : mOk v) (hR : RelR u v) (hy : y < mD v) : PR (d_run u (nI y)) (m_mk (mV v) (qN (mQ v) y) (m_runS (dvF v y) (dvL v y)) true) := by
  intro b hb
  obtain ⟨h1, h2⟩ := dvL_lt hm hR hy
  have h3 := fst_le v y (qV (mQ v) y)
  have h4 := lst_ge v y (48 - qV (mQ v) y) (qV (mQ v) y)
  have hF : dvF v y ≤ dvL v y := Nat.le_trans h3 h4
  rw [run_bits hm hR hy b hb]
  unfold rot
  by_cases c : b < 48
  · rw [if_pos c]
    show _ = (if b < mV v (qN (mQ v) y) then sbit (m_runS (dvF v y) (dvL v y)) b == true else false)
    by_cases d : b < mV v (qN (mQ v) y)
    · rw [if_pos d, sbit_bq _ c, runS_bits hF h2 b hb]
      cases decide (dvF v y ≤ b ∧ b ≤ dvL v y) <;> rfl
    · rw [if_neg d, decide_eq_false (by omega)]
  · rw [if_neg c, decide_eq_false (by omega)]
    by_cases d : b = 48
    · rw [if_pos d]; rfl
    · rw [if_neg d]
theorem df_ok (h : Rel u v) (hy : y < mD v) (hk : mB v < 300) : Rel (wC u (uC (d_df3 u (nI y)))) (m_dr v y) := by
  have hR0 := h
  obtain ⟨hm, hN, hT, hR, hC, hH, hG⟩ := h
  have h4 := hm.1.2.2.2
  obtain ⟨a1, a2, a3, a4, a5, a6, a7, a8, a9, a10⟩ := hR.2 y hy
  obtain ⟨l1, l2⟩ := dvL_lt hm hR hy
  have hV := (hm.2.2.2.1 y).2.1
  have hFl := fst_le v y (qV (mQ v) y)
  have hix : hasIx (uR u).1 (nI y) = true := by rw [hR.1]; exact hasIx_nI (by omega) hy
  have ey : (nI y).toNatClampNeg = y := nI_clamp (by omega)
  have en : r_nm (uR u) (nI y) = nI (qN (mQ v) y) := by rw [r_nm, if_pos hix, ey, a1]
  have eo : r_ot (uR u) (nI y) = nI (qO (mQ v) y) := by rw [r_ot, if_pos hix, ey, a3]
  have ed : r_nd (uR u) (nI y) = qS (mQ v) y := by rw [r_nd, if_pos hix, ey, a4]
  obtain ⟨f1, f2, f3, f4⟩ := fr_add hC.1 hk (nI y) (d_run u (nI y))
  have fM := fr_begin (v := v) hm (E := mE (m_dr1 v y)) (fun j hj => by
    have : j ≠ mB v := by omega
    refine ⟨?_, ?_, ?_, ?_, ?_, ?_⟩
    · show upd (upd (dN (mE v)) (mB v) (-1)) (mB v) (nI (qN (mQ v) y)) j = _
      simp [upd, this]
    · show updN (dF (mE v)) (mB v) (dvF v y) j = _
      simp [updN, this]
    · show updN (dL (mE v)) (mB v) (dvL v y) j = _
      simp [updN, this]
    · show upd (dO (mE v)) (mB v) (nI (qO (mQ v) y)) j = _
      simp [upd, this]
    · show upd (dK (mE v)) (mB v) (qK (mQ v) y) j = _
      simp [upd, this]
    · show vp_updL (dS (mE v)) (mB v) (qS (mQ v) y) j = _
      simp [vp_updL, this])
  obtain ⟨L1, P1, h1, b1, b2, b3, b4, b5, b6, b7⟩ := put_step (p := d_run u (nI y)) hm hN hk f1 fM (bar_0 (u := u) f2) a6 (run_PR hm hR hy) (mk_val _ _ _ _) (Nat.zero_testBit _)
  have b1 : m_dr2 v y = mkV v L1 P1 (mE (m_dr1 v y)) := b1
  have hno : h1.testBit (qO (mQ v) y) = false := by
    cases q : h1.testBit (qO (mQ v) y) with
    | false => rfl
    | true =>
      rcases b5 _ q with e | e
      · rw [Nat.zero_testBit] at e; cases e
      · exact absurd e.symm a9
  obtain ⟨L2, P2, h2, c1, c2, c3, c4, c5, c6, c7⟩ := put_step (p := n_po (uN u) (nI (qO (mQ v) y)) (qS (mQ v) y) (bI false)) hm hN hk b2 b3 b4 a7 (po_PR hm hN a7 (qS (mQ v) y) false) (mk_val _ _ _ _) hno
  have c1 : m_dr v y = addBar (mkV v L2 P2 (mE (m_dr1 v y))) := by
    show addBar (m_ap (m_mkW (m_dr2 v y) (qO (mQ v) y) (qS (mQ v) y) false) 5416) = _
    rw [b1]
    exact congrArg addBar c1
  have eC : uC (d_df3 u (nI y)) = d_ppC (wC u (d_ppC (wC u (c_add (uC u) (nI y) (d_run u (nI y))).2) (nI (mB v)) (nI (qN (mQ v) y)) (d_run u (nI y)))) (nI (mB v)) (nI (qO (mQ v) y)) (n_po (uN u) (nI (qO (mQ v) y)) (qS (mQ v) y) (bI false)) := by
    show d_ppC (d_df2 u (nI y)) (nI (uC u).1) (r_ot (uR u) (nI y)) (n_po (uN u) (r_ot (uR u) (nI y)) (r_nd (uR u) (nI y)) 0) = _
    rw [eo, ed, hC.1]
    show d_ppC (wC u (d_ppC (wC u (c_add (uC u) (nI y) (d_run u (nI y))).2) (nI (uC u).1) (r_nm (uR u) (nI y)) (d_run u (nI y)))) (nI (mB v)) (nI (qO (mQ v) y)) (n_po (uN u) (nI (qO (mQ v) y)) (qS (mQ v) y) 0) = _
    rw [en, hC.1]
    rfl
  rw [eC, c1]
  refine fin_bar hR0 hk c2 c3 c4 (Or.inr ⟨y, hy, c6.trans (b6.trans f3), ?_, ?_, ?_, ?_, ?_, ?_, fun b hb => ?_⟩)
  · show upd (upd (dN (mE v)) (mB v) (-1)) (mB v) (nI (qN (mQ v) y)) (mB v) = _
    simp [upd]
  · show upd (dO (mE v)) (mB v) (nI (qO (mQ v) y)) (mB v) = _
    simp [upd]
  · show vp_updL (dS (mE v)) (mB v) (qS (mQ v) y) (mB v) = _
    simp [vp_updL]
  · show upd (dK (mE v)) (mB v) (qK (mQ v) y) (mB v) = _
    simp [upd]
  · show updN (dF (mE v)) (mB v) (dvF v y) (mB v) < 48
    rw [updN_s]; exact Nat.lt_of_le_of_lt hFl hV
  · show updN (dL (mE v)) (mB v) (dvL v y) (mB v) < 48
    rw [updN_s]; exact l2
  · rw [show cR (uC (wC u (d_ppC (wC u (d_ppC (wC u (c_add (uC u) (nI y) (d_run u (nI y))).2) (nI (mB v)) (nI (qN (mQ v) y)) (d_run u (nI y)))) (nI (mB v)) (nI (qO (mQ v) y)) (n_po (uN u) (nI (qO (mQ v) y)) (qS (mQ v) y) (bI false))))) (mB v) = d_run u (nI y) from c7.trans (b7.trans f4)]
    show _ = decide (updN (dF (mE v)) (mB v) (dvF v y) (mB v) ≤ b ∧ b ≤ updN (dL (mE v)) (mB v) (dvL v y) (mB v))
    rw [updN_s, updN_s]
    exact run_bits hm hR hy b (by omega)
theorem fnd_any {P : Nat → Bool} : ∀ (n i : Nat), (fnd P n i).isSome = true ↔ ∃ k, i ≤ k ∧ k < i + n ∧ P k = true := by
  intro n
  induction n with
  | zero => intro i; exact ⟨fun h => (by cases h), fun ⟨k, h1, h2, _⟩ => by omega⟩
  | succ n ih =>
    intro i
    rw [fnd]
    by_cases c : P i = true
    · rw [if_pos c]
      exact ⟨fun _ => ⟨i, Nat.le_refl _, by omega, c⟩, fun _ => rfl⟩
    · rw [if_neg c, ih]
      constructor
      · rintro ⟨k, h1, h2, h3⟩; exact ⟨k, by omega, by omega, h3⟩
      · rintro ⟨k, h1, h2, h3⟩
        have : k ≠ i := fun q => c (by rw [← q]; exact h3)
        exact ⟨k, by omega, by omega, h3⟩
theorem isD_eq (h : Rel u v) (hy : y < mD v) : d_isD u (nI y) = m_isD v y (mB v) := by
  obtain ⟨hm, hN, hT, hR, hC, hH, hG⟩ := h
  have h4 := hm.1.2.2.2
  have h3 := hm.1.2.2.1
  have hV := (hm.2.2.2.1 y).2.1
  obtain ⟨a1, a2, a3, a4, a5, -⟩ := hR.2 y hy
  have key : ∀ k, k < mB v → (if r_alike (uR u) (c_src (uC u) (nI k)) (nI y) = true then s_hv (c_run (uC u) (nI k)) (r_vr (uR u) (nI y)) else false) = m_dm (mE v) (mQ v) y k := fun k hk => by
    have ek : (nI k).toNatClampNeg = k := nI_clamp (by omega)
    have hix : hasIx (uC u).1 (nI k) = true := by rw [hC.1]; exact hasIx_nI (by omega) hk
    rw [c_src, if_pos hix, c_run, if_pos hix, ek, r_vr_nI (by rw [hR.1]; exact h4) (by rw [hR.1]; exact hy), a2, hv_bq _ hV]
    unfold m_dm
    rcases (hC.2 k hk).2 with ⟨d1, d2⟩ | ⟨r, hr, d1, d2, d3, d4, d5, d6, d7, d8⟩
    · have hqn := (hm.2.2.2.1 y).1
      have hne : ¬ (-1 : Int32) = nI (qN (mQ v) y) := fun q => nI_ne_m1 (n := qN (mQ v) y) (by omega) q.symm
      rw [d1, d2, if_neg hne]
      have : r_alike (uR u) (-1) (nI y) = false := by
        unfold r_alike
        rw [if_neg (by unfold hasIx; rw [if_pos (by decide)]; decide)]
      rw [this, if_neg (by decide)]
    · rw [d1, d2, d3, d4, d5, alike_eq hm hR hr hy, d8 _ hV]
      unfold al0
      by_cases c1 : nI (qN (mQ v) r) = nI (qN (mQ v) y)
      · rw [if_pos c1, if_pos c1]
        have p1 : nI (qV (mQ v) y) < nI (dF (mE v) k) ↔ qV (mQ v) y < dF (mE v) k := by
          rw [Int32.lt_iff_toInt_lt, nI_toInt (by omega), nI_toInt (by omega)]; omega
        have p2 : nI (dL (mE v) k) < nI (qV (mQ v) y) ↔ dL (mE v) k < qV (mQ v) y := by
          rw [Int32.lt_iff_toInt_lt, nI_toInt (by omega), nI_toInt (by omega)]; omega
        by_cases c2 : qV (mQ v) y < dF (mE v) k
        · rw [if_pos (p1.mpr c2), decide_eq_false (by omega)]
          exact ite_self _
        · rw [if_neg (fun q => c2 (p1.mp q))]
          by_cases c3 : dL (mE v) k < qV (mQ v) y
          · rw [if_pos (p2.mpr c3), decide_eq_false (by omega)]
            exact ite_self _
          · rw [if_neg (fun q => c3 (p2.mp q)), decide_eq_true (by omega)]
            cases (if nI (qO (mQ v) r) = nI (qO (mQ v) y) then (if qS (mQ v) r = qS (mQ v) y then (if qK (mQ v) r = qK (mQ v) y then true else false) else false) else false) <;> rfl
      · rw [if_neg c1, if_neg c1, if_neg (by decide)]
  have e1 : d_isD u (nI y) = true ↔ m_isD v y (mB v) = true := by
    unfold d_isD m_isD
    rw [fnd_any, any_iff, hC.1]
    constructor
    · rintro ⟨k, _, h2, h3⟩; exact ⟨k, by omega, (key k (by omega)).symm.trans h3⟩
    · rintro ⟨k, h2, h3⟩; exact ⟨k, Nat.zero_le _, by omega, (key k h2).trans h3⟩
  cases q : m_isD v y (mB v) with
  | true => exact e1.mpr q
  | false =>
    cases q2 : d_isD u (nI y) with
    | false => rfl
    | true => rw [e1.mp q2] at q; cases q
end DF
theorem dlp_ok (u : US) (x y : Int32) : ∀ (n i : Nat) (c : CS) (w : MS), Rel (wC u c) w → i + n ≤ mD w → (d_dlp u x y n i c).1 = (m_dlp x y n i w).1 ∧ Rel (wC u (d_dlp u x y n i c).2) (m_dlp x y n i w).2 ∧ mB w ≤ mB (m_dlp x y n i w).2 := by
  intro n
  induction n with
  | zero => intro i c w h _; exact ⟨rfl, h, Nat.le_refl _⟩
  | succ n ih =>
    intro i c w h hi
    have hi1 : i < mD w := by omega
    obtain ⟨a1, a2, -⟩ := h.2.2.2.1.2 i hi1
    have a1 : rN (uR u) i = nI (qN (mQ w) i) := a1
    have a2 : rV (uR u) i = nI (qV (mQ w) i) := a2
    have h4 := h.1.1.2.2.2
    have h3 := h.1.1.2.2.1
    have hRn : (uR u).1 = mD w := h.2.2.2.1.1
    have hCn : c.1 = mB w := h.2.2.2.2.1.1
    have hof : r_isOf (uR u) (nI i) x y = if nI (qN (mQ w) i) = x then (if nI (qV (mQ w) i) = y then true else false) else false := by
      rw [r_isOf, if_pos (by rw [hRn]; exact hasIx_nI (by omega) hi1), nI_clamp (by omega), a1, a2]
    rw [d_dlp, m_dlp, hof]
    by_cases c1 : nI (qN (mQ w) i) = x
    · rw [if_pos c1, if_pos c1]
      by_cases c2 : nI (qV (mQ w) i) = y
      · rw [if_pos c2, if_pos c2, if_pos rfl, isD_eq h hi1]
        by_cases c3 : m_isD w i (mB w) = true
        · rw [if_pos c3, if_pos c3]
          exact ih (i + 1) c w h (by omega)
        · rw [if_neg c3, if_neg c3]
          by_cases c4 : nI (mB w) = 300
          · have e : d_df (wC u c) (nI i) = (false, c) := by
              show (if (300 : Int32) ≤ nI c.1 then (false, c) else _) = _
              rw [hCn, if_pos ((i300 h3).mpr c4)]
            rw [if_pos c4, e, if_neg (show ¬ (false = true) by decide)]
            exact ⟨rfl, h, Nat.le_refl _⟩
          · have e : d_df (wC u c) (nI i) = (true, uC (d_df3 (wC u c) (nI i))) := by
              show (if (300 : Int32) ≤ nI c.1 then (false, c) else _) = _
              rw [hCn, if_neg (fun q => c4 ((i300 h3).mp q))]
            rw [if_neg c4, e, if_pos rfl]
            have hk : mB w < 300 := Nat.lt_of_le_of_ne h3 (fun q => c4 (by rw [q]; rfl))
            have hr := df_ok h hi1 hk
            have hK := dr_K w i
            have hD : mD (m_dr w i) = mD w := congrArg (fun k => k.2.2.2) hK
            have hB : mB (m_dr w i) = mB w + 1 := congrArg (fun k => k.2.2.1) hK
            obtain ⟨r1, r2, r3⟩ := ih (i + 1) _ (m_dr w i) hr (by rw [hD]; omega)
            exact ⟨r1, r2, by rw [hB] at r3; omega⟩
      · rw [if_neg c2, if_neg c2, if_neg (by decide)]
        exact ih (i + 1) c w h (by omega)
    · rw [if_neg c1, if_neg c1, if_neg (by decide)]
      exact ih (i + 1) c w h (by omega)
theorem rel_cut {u : US} {c : CS} {w : MS} {n : Nat} (h : Rel (wC u c) w) (hn : n ≤ mB w) : Rel (wC u (c_cut c n)) (setB w n) := by
  obtain ⟨hm, hN, hT, hR, hC, hH, hG⟩ := h
  have hCn : c.1 = mB w := hC.1
  have h3 := hm.1.2.2.1
  have e : c_cut c n = (n, c.2) := by
    unfold c_cut
    by_cases q : n < c.1
    · rw [if_pos q]
    · rw [if_neg q, show n = c.1 by omega]
  rw [e]
  refine ⟨mok_setB hm (by omega), hN, hT, hR, ⟨rfl, fun k hk => ?_⟩, hH, hG⟩
  have hk : k < n := hk
  exact hC.2 k (by omega)
theorem rel_derive : H_derive Rel := fun u v x y h => by
  have hR0 := h
  obtain ⟨hm, hN, hT, hR, hC, hH, hG⟩ := h
  unfold d_deriveC m_derive
  rw [hv_dv hm hN]
  by_cases c1 : m_dvOk v x y = true
  · rw [if_pos c1, if_pos c1, hR.1]
    obtain ⟨r1, r2, r3⟩ := dlp_ok u x y (mD v) 0 (uC u) v hR0 (by omega)
    rw [r1, hC.1]
    by_cases c2 : (m_dlp x y (mD v) 0 v).1 = true
    · rw [if_pos c2, if_pos c2]
      refine ⟨?_, r2⟩
      show nI (d_dlp u x y (mD v) 0 (uC u)).2.1 - nI (mB v) = _
      rw [show (d_dlp u x y (mD v) 0 (uC u)).2.1 = mB (m_dlp x y (mD v) 0 v).2 from r2.2.2.2.2.1.1]
    · rw [if_neg c2, if_neg c2]
      exact ⟨rfl, rel_cut r2 r3⟩
  · rw [if_neg c1, if_neg c1]
    exact ⟨rfl, hR0⟩
