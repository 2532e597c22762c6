/-! choose, forget, versions, needs -/
theorem rel_choose : H_choose Rel := fun u v x h => by
  have hR0 := h
  obtain ⟨hm, hN, hT, hR, hC, hH, hG⟩ := h
  have hb := hm.1.2.1
  have h16 := hm.1.1
  unfold d_choose m_choose
  rw [hT.1]
  rcases hasIx_cases (n := mT v) (by omega) x with e | ⟨j, hj, ex, ec, e⟩
  · rw [if_neg (by rw [e]; decide), if_neg (by rw [e]; decide)]
    exact ⟨rfl, hR0⟩
  · rw [if_pos e, if_pos e]
    refine ⟨rfl, ?_⟩
    obtain ⟨x1, ex1, hs1, hx1, hp1, hv1⟩ := hT.2 j hj
    obtain ⟨hc1, hc2, hc3, hc4⟩ := hH x1 hx1
    have p1 : t_pl (uT u) x = (uT u).2.2 j := by rw [t_pl, if_pos (by rw [hT.1]; exact e), ec]
    have e3 : t_nm (uT u) x = nI x1 := by rw [t_nm, if_pos (by rw [hT.1]; exact e), ec, ex1]
    have eh : d_narH u (t_nm (uT u) x) (t_pl (uT u) x) = vp_updL (uH u) x1 (uH u x1 &&& (uT u).2.2 j) := by
      rw [d_narH, e3, p1, if_pos (by rw [hN.1]; exact hasIx_nI (by omega) hx1), nI_clamp (by omega)]
    show Rel (wH u (d_narH u (t_nm (uT u) x) (t_pl (uT u) x))) (sL v (m_join (mL v) (5400 + (mL v).1 x.toNatClampNeg) (5400 + (mL v).1 x.toNatClampNeg) x.toNatClampNeg false))
    rw [eh, ec, hs1]
    have hj5 : j < 600 := by omega
    refine ⟨mok_L hm (join_nm hm.2.2.1), hN, relT_L hT (fun t ht => same_set (by omega)), hR, relC_L hm hC (fun t _ h2 => same_set (by omega)), ?_, hG⟩
    intro i hi
    show SlotR _ (5400 + i) i (vp_updL (uH u) x1 (uH u x1 &&& (uT u).2.2 j) i)
    by_cases ei : i = x1
    · subst ei
      rw [show vp_updL (uH u) i (uH u i &&& (uT u).2.2 j) i = uH u i &&& (uT u).2.2 j by simp [vp_updL], m_join, hc1]
      exact slot_set hx1 (hc3.and hp1) (fun b h1 h2 => by
        show (if false = true then _ else (mL v).2 (5400 + i) (b + 1) && (mL v).2 j (b + 1)) = false
        rw [if_neg (by decide), hc4 b h1 h2]; rfl)
    · rw [show vp_updL (uH u) x1 (uH u x1 &&& (uT u).2.2 j) i = uH u i by simp [vp_updL, ei]]
      exact (hH i hi).mono (same_set (by omega)).1 (same_set (by omega)).2 (Nat.le_refl _) rfl
theorem full_val (k : Nat) : Val k (fullR k) := fun b h _ => by
  unfold fullR
  exact decide_eq_false (by omega)
theorem mfg (vs : Nat → Nat) : ∀ (n i : Nat) (s : SLt), (m_fgl vs n i s).1 = s.1 ∧ (∀ t, (t < 5400 + i ∨ 5400 + i + n ≤ t) → (m_fgl vs n i s).2 t = s.2 t) ∧ ∀ j, i ≤ j → j < i + n → ∀ b, b < 49 → (m_fgl vs n i s).2 (5400 + j) b = decide (b ≤ vs (s.1 (5400 + j))) := by
  intro n
  induction n with
  | zero => intro i s; exact ⟨rfl, fun t _ => rfl, fun j h1 h2 => by omega⟩
  | succ n ih =>
    intro i s
    obtain ⟨h1, h2, h3⟩ := ih (i + 1) (m_full vs s (5400 + i))
    rw [m_fgl]
    refine ⟨h1, fun t ht => ?_, fun j hj1 hj2 b hb => ?_⟩
    · rw [h2 t (by omega)]
      funext b
      have hne : t ≠ 5400 + i := by omega
      show setU s.2 (5400 + i) (fun b => decide (b ≤ vs (s.1 (5400 + i)))) 49 t b = s.2 t b
      exact setU_out _ _ _ _ hne b
    · by_cases e : j = i
      · subst e
        rw [h2 (5400 + j) (by omega)]
        show setU s.2 (5400 + j) (fun b => decide (b ≤ vs (s.1 (5400 + j)))) 49 (5400 + j) b = _
        exact setU_in _ _ _ hb
      · rw [h3 j (by omega) (by omega) b hb]
        rfl
theorem dfg (u : US) : ∀ (n i : Nat) (h : Nat → Int64) (j : Nat), d_fgl u n i h j = if i ≤ j ∧ j < i + n then n_ev (uN u) (nI j) else h j := by
  intro n
  induction n with
  | zero => intro i h j; rw [d_fgl, if_neg (by omega)]
  | succ n ih =>
    intro i h j
    rw [d_fgl, ih]
    by_cases e : j = i
    · subst e
      rw [if_neg (by omega), if_pos (by omega)]
      simp [vp_updL]
    · by_cases c : i + 1 ≤ j ∧ j < i + 1 + n
      · rw [if_pos c, if_pos (by omega)]
      · rw [if_neg c, if_neg (by omega)]
        simp [vp_updL, e]
theorem rel_forget : H_forget Rel := fun u v h => by
  obtain ⟨hm, hN, hT, hR, hC, hH, hG⟩ := h
  have h16 := hm.1.1
  have hb := hm.1.2.1
  obtain ⟨f1, f2, f3⟩ := mfg (mV v) (mN v) 0 (mL v)
  refine ⟨mok_L hm (fun t => by rw [f1]; exact hm.2.2.1 t), hN, relT_L hT (fun t ht => ⟨by rw [f1], f2 t (by omega)⟩), hR, relC_L hm hC (fun t _ h2 => ⟨by rw [f1], f2 t (by omega)⟩), ?_, hG⟩
  intro i hi
  have hi : i < mN v := hi
  obtain ⟨hc1, hc2, hc3, hc4⟩ := hH i hi
  show SlotR _ (5400 + i) i (d_fgl u (uN u).1 0 (uH u) i)
  rw [dfg, hN.1, if_pos (by omega)]
  have e : ∀ b, b < 49 → fullR (mV v i) b = (m_fgl (mV v) (mN v) 0 (mL v)).2 (5400 + i) b := fun b hb => by
    rw [f3 i (by omega) (by omega) b hb, hc1]
    rfl
  exact ⟨by show (m_fgl (mV v) (mN v) 0 (mL v)).1 (5400 + i) = i; rw [f1]; exact hc1, hi, (ev_PR hm hN hi).congr e, (full_val _).congr e⟩
theorem new_PR : ∀ j, j < 49 → ∀ b, b < 64 → bq ((s_bit (nI j) - 1) ||| 281474976710656) b = rot (fullR j) b := by decide +kernel
theorem rel_versions : H_versions Rel := fun u v x h => by
  have hR0 := h
  obtain ⟨hm, hN, hT, hR, hC, hH, hG⟩ := h
  have h16 := hm.1.1
  have hb := hm.1.2.1
  have e16 : (16 : Int32) ≤ nI (uN u).1 ↔ nI (mN v) = 16 := by
    rw [hN.1]
    constructor
    · intro h
      have : ¬ mN v < 16 := fun q => absurd h (nI_ge (b := 16) q (by decide))
      have e : mN v = 16 := by omega
      rw [e]; rfl
    · intro h
      rw [h]; decide
  have eok : n_addOk (uN u) x = m_verOk v x := by
    unfold n_addOk m_verOk
    by_cases c : nI (mN v) = 16
    · rw [if_pos (e16.mpr c), if_pos c]
    · rw [if_neg (fun q => c (e16.mp q)), if_neg c]
  unfold d_ver m_ver
  rw [eok]
  cases ok : m_verOk v x with
  | false => rw [if_neg (by decide), if_neg (by decide)]; exact ⟨rfl, hR0⟩
  | true =>
    rw [if_pos rfl, if_pos rfl, hN.1]
    refine ⟨rfl, ?_⟩
    obtain ⟨n16, x0, x48⟩ : ¬ nI (mN v) = 16 ∧ ¬ x < 0 ∧ x ≤ 48 := by
      unfold m_verOk at ok
      by_cases c1 : nI (mN v) = 16
      · rw [if_pos c1] at ok; cases ok
      · rw [if_neg c1] at ok
        by_cases c2 : x < 0
        · rw [if_pos c2] at ok; cases ok
        · rw [if_neg c2] at ok
          by_cases c3 : x ≤ 48
          · exact ⟨c1, c2, c3⟩
          · rw [if_neg c3] at ok; cases ok
    have hlt : mN v < 16 := Nat.lt_of_le_of_ne h16 (fun q => n16 (by rw [q]; rfl))
    have hj := le48 x0 x48
    have ej := nI_self x0
    generalize hk : x.toNatClampNeg = k at hj ej ⊢
    subst ej
    have eV : ∀ y, y < mN v → updN (mV v) (mN v) k y = mV v y := fun y hy => by simp [updN, Nat.ne_of_lt hy]
    have eV' : updN (mV v) (mN v) k (mN v) = k := updN_s _ _ _
    have hA : (n_addS (uN u) (nI k)).1 = mN v + 1 := congrArg (· + 1) hN.1
    have hAs : ∀ i, i < mN v → (n_addS (uN u) (nI k)).2 i = (uN u).2 i := fun i hi => by
      show vp_updL (uN u).2 (uN u).1 _ i = _
      rw [hN.1]; simp [vp_updL, Nat.ne_of_lt hi]
    have hAn : (n_addS (uN u) (nI k)).2 (mN v) = (s_bit (nI k) - 1) ||| 281474976710656 := by
      show vp_updL (uN u).2 (uN u).1 _ (mN v) = _
      rw [hN.1]; simp [vp_updL]
    have hPn : PR ((n_addS (uN u) (nI k)).2 (mN v)) (fullR k) := fun b hb => by rw [hAn]; exact new_PR k (by omega) b hb
    have hSame : ∀ t, t ≠ 5400 + mN v → Same (mL v) (m_full (mV (m_verV v k)) (mL (m_verV v k)) (5400 + mN v)) t := fun t ht => ⟨by show updN (mL v).1 (5400 + mN v) (mN v) t = _; simp [updN, ht], by funext b; show setU (mL v).2 (5400 + mN v) (fun b => decide (b ≤ mV (m_verV v k) ((mL (m_verV v k)).1 (5400 + mN v)))) 49 t b = (mL v).2 t b; exact setU_out _ _ _ _ ht b⟩
    have hmono : ∀ (t y : Nat) (p : Int64), t ≠ 5400 + mN v → SlotR v t y p → SlotR (sL (m_verV v k) (m_full (mV (m_verV v k)) (mL (m_verV v k)) (5400 + mN v))) t y p := fun t y p ht hs => hs.mono (hSame t ht).1 (hSame t ht).2 (Nat.le_succ _) (eV y hs.2.1)
    refine ⟨⟨⟨hlt, hm.1.2⟩, updN_le hm.2.1 hj, updN_lt hm.2.2.1 hlt, hm.2.2.2.1, hm.2.2.2.2⟩, ⟨hA, fun i hi => ?_⟩, ⟨hT.1, fun t ht => ?_⟩, ⟨hR.1, fun i hi => ?_⟩, ⟨hC.1, fun i hi => ?_⟩, fun i hi => ?_, hG⟩
    · have hi : i < mN v + 1 := hi
      show PR ((n_addS (uN u) (nI k)).2 i) (fullR (updN (mV v) (mN v) k i))
      by_cases e : i = mN v
      · subst e; rw [eV']; exact hPn
      · rw [hAs i (by omega), eV i (by omega)]; exact hN.2 i (by omega)
    · have ht : t < mT v := ht
      obtain ⟨y, ey, hs⟩ := hT.2 t ht
      exact ⟨y, ey, hmono t y _ (by omega) hs⟩
    · obtain ⟨a1, a2, a3, a4, a5, a6, a7, a8, a9, a10⟩ := hR.2 i hi
      exact ⟨a1, a2, a3, a4, a5, Nat.lt_succ_of_lt a6, Nat.lt_succ_of_lt a7, by show qV (mQ v) i < updN (mV v) (mN v) k (qN (mQ v) i); rw [eV _ a6]; exact a8, a9, by show ∀ b, updN (mV v) (mN v) k (qO (mQ v) i) ≤ b → _; rw [eV _ a7]; exact a10⟩
    · have hi : i < mB v := hi
      have h3 := hm.1.2.2.1
      obtain ⟨⟨hh, a⟩, d⟩ := hC.2 i hi
      exact ⟨⟨hh, barP_L a (by omega) (fun t _ h2 => hSame t (by omega)) rfl (Nat.le_succ _) eV⟩, d⟩
    · have hi : i < mN v + 1 := hi
      show SlotR (sL (m_verV v k) (m_full (mV (m_verV v k)) (mL (m_verV v k)) (5400 + mN v))) (5400 + i) i (vp_updL (uH u) (mN v) (n_ev (n_addS (uN u) (nI k)) (nI (mN v))) i)
      by_cases e : i = mN v
      · subst e
        rw [show vp_updL (uH u) (mN v) (n_ev (n_addS (uN u) (nI k)) (nI (mN v))) (mN v) = n_ev (n_addS (uN u) (nI k)) (nI (mN v)) by simp [vp_updL], n_ev, if_pos (by rw [hA]; exact hasIx_nI (by omega) (by omega)), nI_clamp (by omega)]
        have e2 : ∀ b, b < 49 → fullR k b = (m_full (mV (m_verV v k)) (mL (m_verV v k)) (5400 + mN v)).2 (5400 + mN v) b := fun b hb => by
          refine Eq.symm ((show setU (mL v).2 (5400 + mN v) (fun b => decide (b ≤ mV (m_verV v k) ((mL (m_verV v k)).1 (5400 + mN v)))) 49 (5400 + mN v) b = decide (b ≤ mV (m_verV v k) ((mL (m_verV v k)).1 (5400 + mN v))) from setU_in _ _ _ hb).trans ?_)
          show decide (b ≤ updN (mV v) (mN v) k (updN (mL v).1 (5400 + mN v) (mN v) (5400 + mN v))) = _
          rw [updN_s, eV']; rfl
        refine ⟨updN_s _ _ _, Nat.lt_succ_self _, hPn.congr e2, ?_⟩
        show Val (updN (mV v) (mN v) k (mN v)) _
        rw [eV']
        exact (full_val k).congr e2
      · rw [show vp_updL (uH u) (mN v) (n_ev (n_addS (uN u) (nI k)) (nI (mN v))) i = uH u i by simp [vp_updL, e]]
        exact hmono (5400 + i) i _ (by omega) (hH i (by omega))
