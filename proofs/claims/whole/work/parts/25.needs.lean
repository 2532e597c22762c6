/-! needs -/
theorem hv_dv {u : US} {v : MS} (hm : mOk v) (hN : RelN u v) (x y : Int32) : s_hv (n_ev (uN u) x) y = m_dvOk v x y := by
  have h16 := hm.1.1
  unfold m_dvOk
  rcases hasIx_cases (n := mN v) (by omega) x with e | ⟨j, hj, ex, ec, e⟩
  · rw [if_neg (by rw [e]; decide), n_ev, if_neg (by rw [hN.1, e]; decide)]
    by_cases h : ∃ w : Nat, w < 48 ∧ y = nI w
    · obtain ⟨w, hw, rfl⟩ := h
      rw [hv_bq _ hw, bq_0]
    · exact hv_no _ h
  · rw [if_pos e, ec, ex]
    have hE := ev_PR hm hN hj
    have hk := hm.2.1 j
    by_cases h : ∃ w : Nat, w < 48 ∧ y = nI w
    · obtain ⟨w, hw, rfl⟩ := h
      rw [hv_bq _ hw, hE.v hw, if_neg (nI_pos (by omega))]
      unfold fullR
      by_cases c : w < mV v j
      · rw [if_pos (nI_lt c (by omega)), decide_eq_true (by omega)]
      · rw [if_neg (i_not_lt_of_le (nI_le (by omega) (by omega))), decide_eq_false (by omega)]
    · rw [hv_no _ h]
      by_cases c : y < 0
      · rw [if_pos c]
      · rw [if_neg c]
        by_cases d : y < nI (mV v j)
        · exfalso
          rcases pk_ix y (n := mV v j) (by omega) with g | g | ⟨w, hw, g⟩
          · exact c g
          · exact absurd g (i_not_le_of_lt d)
          · exact h ⟨w, by omega, g⟩
        · rw [if_neg d]
theorem dv_t {v : MS} (hm : mOk v) {x y : Int32} (h : m_dvOk v x y = true) : ∃ j w : Nat, j < mN v ∧ w < mV v j ∧ x = nI j ∧ y = nI w := by
  have h16 := hm.1.1
  unfold m_dvOk at h
  rcases hasIx_cases (n := mN v) (by omega) x with e | ⟨j, hj, ex, ec, e⟩
  · rw [if_neg (by rw [e]; decide)] at h; cases h
  · rw [if_pos e, ec] at h
    have hk := hm.2.1 j
    by_cases c : y < 0
    · rw [if_pos c] at h; cases h
    · rw [if_neg c] at h
      by_cases d : y < nI (mV v j)
      · rcases pk_ix y (n := mV v j) (by omega) with g | g | ⟨w, hw, g⟩
        · exact absurd g c
        · exact absurd g (i_not_le_of_lt d)
        · exact ⟨j, w, hj, hw, ex, g⟩
      · rw [if_neg d] at h; cases h
theorem thS_bits (set : Int64) : ∀ n, n ≤ 48 → ∀ b, b < 64 → bq (thS set n) b = (decide (b < n) && bq set b) := by
  intro n
  induction n with
  | zero => intro _ b _; rw [thS, bq_0]; simp
  | succ n ih =>
    intro hn b hb
    rw [thS, bq_or, ih (by omega) b hb, bq_and, bq_bit n (by omega) b hb]
    by_cases e : b = n
    · subst e; simp
    · by_cases l : b < n
      · simp [e, l, Nat.lt_succ_of_lt l]
      · have : ¬ b < n + 1 := by omega
        simp [e, l, this]
theorem i400 {n : Nat} (hn : n ≤ 400) : (400 : Int32) ≤ nI n ↔ nI n = 400 := by
  constructor
  · intro h
    have : ¬ n < 400 := fun q => absurd h (nI_ge (b := 400) q (by decide))
    have e : n = 400 := by omega
    rw [e]; rfl
  · intro h
    rw [h]
    decide
theorem i300 {n : Nat} (hn : n ≤ 300) : (300 : Int32) ≤ nI n ↔ nI n = 300 := by
  constructor
  · intro h
    have : ¬ n < 300 := fun q => absurd h (nI_ge (b := 300) q (by decide))
    have e : n = 300 := by omega
    rw [e]; rfl
  · intro h
    rw [h]
    decide
theorem nd_dv {v : MS} (x y z k : Int32) : m_ndOk v x y z k = if m_dvOk v x y = true then (if hasIx (mN v) z = true then (if z = x then false else if k < 0 then false else if 8 ≤ k then false else if nI (mD v) = 400 then false else true) else false) else false := by
  unfold m_ndOk m_dvOk
  by_cases h1 : hasIx (mN v) x = true
  · rw [if_pos h1, if_pos h1]
    by_cases h2 : y < 0
    · rw [if_pos h2, if_pos h2]; rfl
    · rw [if_neg h2, if_neg h2]
      by_cases h3 : y < nI (mV v x.toNatClampNeg)
      · rw [if_neg (i_not_le_of_lt h3), if_pos h3]; rfl
      · rw [if_pos (i_le_of_not_lt h3), if_neg h3]; rfl
  · rw [if_neg h1, if_neg h1]; rfl
theorem rel_needs : H_needs Rel := fun u v x y z t k h => by
  have hR0 := h
  obtain ⟨hm, hN, hT, hR, hC, hH, hG⟩ := h
  have h16 := hm.1.1
  have h4 := hm.1.2.2.2
  have e1 : d_needsOk u x y z k = if m_dvOk v x y = true then (if hasIx (mN v) z = true then (if z = x then false else if k < 0 then false else if k < 8 then true else false) else false) else false := by
    rw [d_needsOk, hv_dv hm hN, hN.1]
  have e2 := nd_dv (v := v) x y z k
  by_cases c1 : m_dvOk v x y = true
  · rw [if_pos c1] at e1 e2
    by_cases c2 : hasIx (mN v) z = true
    · rw [if_pos c2] at e1 e2
      by_cases c3 : z = x
      · rw [if_pos c3] at e1 e2
        rw [d_needs, m_nd, if_neg (by rw [e1]; decide), if_neg (by rw [e2]; decide), e2]
        exact ⟨rfl, hR0⟩
      · rw [if_neg c3] at e1 e2
        by_cases c4 : k < 0
        · rw [if_pos c4] at e1 e2
          rw [d_needs, m_nd, if_neg (by rw [e1]; decide), if_neg (by rw [e2]; decide), e2]
          exact ⟨rfl, hR0⟩
        · rw [if_neg c4] at e1 e2
          by_cases c5 : k < 8
          · rw [if_pos c5] at e1
            rw [if_neg (i_not_le_of_lt c5)] at e2
            rw [d_needs, if_pos e1, r_add, hR.1]
            by_cases c6 : nI (mD v) = 400
            · rw [if_pos c6] at e2
              rw [if_pos ((i400 h4).mpr c6), m_nd, if_neg (by rw [e2]; decide), e2]
              exact ⟨rfl, hR0⟩
            · rw [if_neg c6] at e2
              rw [if_neg (fun q => c6 ((i400 h4).mp q)), m_nd, if_pos e2, e2]
              refine ⟨rfl, ?_⟩
              have hlt : mD v < 400 := Nat.lt_of_le_of_ne h4 (fun q => c6 (by rw [q]; rfl))
              obtain ⟨j, w, hj, hw, rfl, rfl⟩ := dv_t hm c1
              obtain ⟨o, ho, rfl⟩ := hasIx_t (by omega) c2
              have hk := hm.2.1 j
              have hko := hm.2.1 o
              have ej : (nI j).toNatClampNeg = j := nI_clamp (by omega)
              have ew : (nI w).toNatClampNeg = w := nI_clamp (by omega)
              have eo : (nI o).toNatClampNeg = o := nI_clamp (by omega)
              have eS : n_po (uN u) (nI o) t 1 = thS t (mV v o) := by
                rw [n_po, if_neg (by decide)]
                exact bq_ext (fun b hb => by rw [po_bits hm hN ho t b hb, thS_bits t _ hko b hb])
              have hne : j ≠ o := fun q => c3 (by rw [q])
              refine ⟨⟨⟨hm.1.1, hm.1.2.1, hm.1.2.2.1, hlt⟩, hm.2.1, hm.2.2.1, fun i => ⟨updN_lt (fun i => (hm.2.2.2.1 i).1) (by omega) i, updN_lt (fun i => (hm.2.2.2.1 i).2.1) (by omega) i, updN_lt (fun i => (hm.2.2.2.1 i).2.2) (by omega) i⟩, hm.2.2.2.2⟩, hN, hT, ⟨rfl, fun i hi => ?_⟩, ⟨hC.1, fun i hi => ?_⟩, hH, hG⟩
              · have hi : i < mD v + 1 := hi
                show upd (rN (uR u)) (mD v) (nI j) i = nI (updN (qN (mQ v)) (mD v) (nI j).toNatClampNeg i) ∧ upd (rV (uR u)) (mD v) (nI w) i = nI (updN (qV (mQ v)) (mD v) (nI w).toNatClampNeg i) ∧ upd (rO (uR u)) (mD v) (nI o) i = nI (updN (qO (mQ v)) (mD v) (nI o).toNatClampNeg i) ∧ vp_updL (rD (uR u)) (mD v) (n_po (uN u) (nI o) t 1) i = vp_updL (qS (mQ v)) (mD v) (thS t (mV v (nI o).toNatClampNeg)) i ∧ upd (rK (uR u)) (mD v) k i = upd (qK (mQ v)) (mD v) k i ∧ updN (qN (mQ v)) (mD v) (nI j).toNatClampNeg i < mN v ∧ updN (qO (mQ v)) (mD v) (nI o).toNatClampNeg i < mN v ∧ updN (qV (mQ v)) (mD v) (nI w).toNatClampNeg i < mV v (updN (qN (mQ v)) (mD v) (nI j).toNatClampNeg i) ∧ updN (qN (mQ v)) (mD v) (nI j).toNatClampNeg i ≠ updN (qO (mQ v)) (mD v) (nI o).toNatClampNeg i ∧ ∀ b, mV v (updN (qO (mQ v)) (mD v) (nI o).toNatClampNeg i) ≤ b → b < 64 → bq (vp_updL (qS (mQ v)) (mD v) (thS t (mV v (nI o).toNatClampNeg)) i) b = false
                rw [ej, ew, eo, eS]
                by_cases e : i = mD v
                · subst e
                  simp only [upd, updN, vp_updL, if_true]
                  refine ⟨trivial, trivial, trivial, trivial, trivial, hj, ho, hw, hne, fun b h1 h2 => ?_⟩
                  rw [thS_bits t _ hko b h2, decide_eq_false (by omega)]
                  rfl
                · simp only [upd, updN, vp_updL, if_neg e]
                  exact hR.2 i (by omega)
              · have hi : i < mB v := hi
                obtain ⟨hh, d⟩ := hC.2 i hi
                refine ⟨hh, ?_⟩
                rcases d with d | ⟨r, hr, d1, d2, d3, d4, d5, d6⟩
                · exact Or.inl d
                · refine Or.inr ⟨r, Nat.lt_succ_of_lt hr, d1, ?_⟩
                  show dN (mE v) i = nI (updN (qN (mQ v)) (mD v) (nI j).toNatClampNeg r) ∧ dO (mE v) i = nI (updN (qO (mQ v)) (mD v) (nI o).toNatClampNeg r) ∧ dS (mE v) i = vp_updL (qS (mQ v)) (mD v) (thS t (mV v (nI o).toNatClampNeg)) r ∧ dK (mE v) i = upd (qK (mQ v)) (mD v) k r ∧ _
                  have e : ¬ r = mD v := by omega
                  simp only [upd, updN, vp_updL, if_neg e]
                  exact ⟨d2, d3, d4, d5, d6⟩
          · rw [if_neg c5] at e1
            rw [if_pos (i_le_of_not_lt c5)] at e2
            rw [d_needs, m_nd, if_neg (by rw [e1]; decide), if_neg (by rw [e2]; decide), e2]
            exact ⟨rfl, hR0⟩
    · rw [if_neg c2] at e1 e2
      rw [d_needs, m_nd, if_neg (by rw [e1]; decide), if_neg (by rw [e2]; decide), e2]
      exact ⟨rfl, hR0⟩
  · rw [if_neg c1] at e1 e2
    rw [d_needs, m_nd, if_neg (by rw [e1]; decide), if_neg (by rw [e2]; decide), e2]
    exact ⟨rfl, hR0⟩
