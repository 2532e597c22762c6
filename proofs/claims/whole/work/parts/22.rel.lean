/-! BOTH STATES, ONE BESIDE THE OTHER -/
/-- a row has no version that isn't there -/
def Val (k : Nat) (r : Nat → Bool) : Prop := ∀ w, k ≤ w → w < 48 → r (w + 1) = false
def fullR (k : Nat) : Nat → Bool := fun b => decide (b ≤ k)
/-- a slot of the reference holds a term of name x with these places -/
def SlotR (v : MS) (t x : Nat) (p : Int64) : Prop := (mL v).1 t = x ∧ x < mN v ∧ PR p ((mL v).2 t) ∧ Val (mV v x) ((mL v).2 t)
def RelN (u : US) (v : MS) : Prop := (uN u).1 = mN v ∧ ∀ i, i < mN v → PR ((uN u).2 i) (fullR (mV v i))
def RelT (u : US) (v : MS) : Prop := (uT u).1 = mT v ∧ ∀ t, t < mT v → ∃ x, (uT u).2.1 t = nI x ∧ SlotR v t x ((uT u).2.2 t)
def RowR (u : US) (v : MS) (i : Nat) : Prop := rN (uR u) i = nI (qN (mQ v) i) ∧ rV (uR u) i = nI (qV (mQ v) i) ∧ rO (uR u) i = nI (qO (mQ v) i) ∧ rD (uR u) i = qS (mQ v) i ∧ rK (uR u) i = qK (mQ v) i ∧ qN (mQ v) i < mN v ∧ qO (mQ v) i < mN v ∧ qV (mQ v) i < mV v (qN (mQ v) i) ∧ qN (mQ v) i ≠ qO (mQ v) i ∧ ∀ b, mV v (qO (mQ v) i) ≤ b → b < 64 → bq (qS (mQ v) i) b = false
def RelR (u : US) (v : MS) : Prop := (uR u).1 = mD v ∧ ∀ i, i < mD v → RowR u v i
/-- bar k: h is the set of its names -/
def BarP (u : US) (v : MS) (k h : Nat) : Prop := cH (uC u) k = nI h ∧ h < 65536 ∧ (∀ i, i < mP v k → h.testBit ((mL v).1 (600 + 16 * k + i)) = true ∧ SlotR v (600 + 16 * k + i) ((mL v).1 (600 + 16 * k + i)) (cP (uC u) (k * 16 + (mL v).1 (600 + 16 * k + i)))) ∧ (∀ i j, i < j → j < mP v k → (mL v).1 (600 + 16 * k + i) < (mL v).1 (600 + 16 * k + j)) ∧ (∀ x, x < 16 → h.testBit x = true → ∃ i, i < mP v k ∧ (mL v).1 (600 + 16 * k + i) = x) ∧ mP v k ≤ 16
def BarD (u : US) (v : MS) (k : Nat) : Prop := (cO (uC u) k = -1 ∧ dN (mE v) k = -1) ∨ ∃ r, r < mD v ∧ cO (uC u) k = nI r ∧ dN (mE v) k = nI (qN (mQ v) r) ∧ dO (mE v) k = nI (qO (mQ v) r) ∧ dS (mE v) k = qS (mQ v) r ∧ dK (mE v) k = qK (mQ v) r ∧ dF (mE v) k < 48 ∧ dL (mE v) k < 48 ∧ ∀ b, b < 48 → bq (cR (uC u) k) b = decide (dF (mE v) k ≤ b ∧ b ≤ dL (mE v) k)
def RelC (u : US) (v : MS) : Prop := (uC u).1 = mB v ∧ ∀ k, k < mB v → (∃ h, BarP u v k h) ∧ BarD u v k
def RelH (u : US) (v : MS) : Prop := ∀ i, i < mN v → SlotR v (5400 + i) i (uH u i)
def RelG (u : US) (v : MS) : Prop := (uG u).1 = (mO v).1 ∧ (mO v).1 ≤ 1648 ∧ ∀ i, i < (mO v).1 → (uG u).2 i = (mO v).2 i
def Rel (u : US) (v : MS) : Prop := mOk v ∧ RelN u v ∧ RelT u v ∧ RelR u v ∧ RelC u v ∧ RelH u v ∧ RelG u v
theorem rel_0 : Rel u0 v0 := by
  refine ⟨⟨⟨by decide, by decide, by decide, by decide⟩, fun _ => Nat.zero_le _, fun _ => (by decide : (0 : Nat) < 16), fun _ => ⟨(by decide : (0 : Nat) < 16), (by decide : (0 : Nat) < 48), (by decide : (0 : Nat) < 16)⟩, fun _ => Nat.zero_le _⟩, ⟨rfl, fun i h => absurd h (Nat.not_lt_zero _)⟩, ⟨rfl, fun i h => absurd h (Nat.not_lt_zero _)⟩, ⟨rfl, fun i h => absurd h (Nat.not_lt_zero _)⟩, ⟨rfl, fun i h => absurd h (Nat.not_lt_zero _)⟩, fun i h => absurd h (Nat.not_lt_zero _), ⟨rfl, Nat.zero_le _, fun i h => absurd h (Nat.not_lt_zero _)⟩⟩
theorem Rel.uok {u : US} {v : MS} (h : Rel u v) : uOk u := by
  obtain ⟨hm, hN, hT, hR, hC, hH, hG⟩ := h
  exact ⟨by rw [hN.1]; exact hm.1.1, by rw [hT.1]; exact hm.1.2.1, by rw [hR.1]; exact hm.1.2.2.2, by rw [hC.1]; exact hm.1.2.2.1, by rw [hG.1]; exact hG.2.1⟩
theorem rel_ok : H_ok Rel := fun u v h => by
  have hu := h.uok
  obtain ⟨hm, hN, hT, hR, hC, hH, hG⟩ := h
  refine ⟨hu, hm, fun i hi => ?_, by have := hG.2.1; omega⟩
  rw [hR.1] at hi
  exact ⟨qV (mQ v) i, (hm.2.2.2.1 i).2.1, (hR.2 i hi).2.1⟩
theorem rel_count : H_count Rel := fun u v h => by
  obtain ⟨hm, hN, hT, hR, hC, hH, hG⟩ := h
  rw [hC.1]
theorem rel_at : H_at Rel := fun u v x h => by
  obtain ⟨hm, hN, hT, hR, hC, hH, hG⟩ := h
  unfold g_at m_at
  by_cases h0 : x < 0
  · rw [if_pos h0, if_pos h0]
  · rw [if_neg h0, if_neg h0]
    rcases pk_ix x (n := (mO v).1) (by have := hG.2.1; omega) with g | g | ⟨j, hj, rfl⟩
    · exact absurd g h0
    · rw [if_pos (show nI (uG u).1 ≤ x by rw [hG.1]; exact g), if_neg (i_not_lt_of_le g)]
    · have hb := hG.2.1
      rw [if_neg (show ¬ nI (uG u).1 ≤ nI j by rw [hG.1]; exact nI_ge hj (by omega)), if_pos (show nI j < 1648 from nI_lt (b := 1648) (by omega) (by decide)), if_pos (nI_lt hj (by omega)), nI_clamp (by omega)]
      exact hG.2.2 j hj
-- single terms
theorem has_eq {n m : Nat} (h : n = m) (x : Int32) : hasIx n x = hasIx m x := by rw [h]
theorem hasIx_cases {n : Nat} (hn : n < 2 ^ 31) (x : Int32) : (hasIx n x = false) ∨ ∃ j, j < n ∧ x = nI j ∧ x.toNatClampNeg = j ∧ hasIx n x = true := by
  cases h : hasIx n x with
  | false => exact Or.inl rfl
  | true =>
    obtain ⟨j, hj, e⟩ := hasIx_t hn h
    exact Or.inr ⟨j, hj, e, by rw [e, nI_clamp (by omega)], rfl⟩
theorem ev_PR {u : US} {v : MS} (hm : mOk v) (hN : RelN u v) {x : Nat} (hx : x < mN v) : PR (n_ev (uN u) (nI x)) (fullR (mV v x)) := by
  have h16 := hm.1.1
  rw [n_ev, if_pos (by rw [hN.1]; exact hasIx_nI (by omega) hx), nI_clamp (by omega)]
  exact hN.2 x hx
/-- the set of a term -/
theorem so_bits {u : US} {v : MS} (hm : mOk v) (hN : RelN u v) {t x : Nat} {p : Int64} (hs : SlotR v t x p) : ∀ b, b < 64 → bq (n_so (uN u) (nI x) p) b = (decide (b < 48) && m_isL (mV v) (mL v) t b) := by
  obtain ⟨hx, hxn, hp, hv⟩ := hs
  have hE := ev_PR hm hN hxn
  have hk := hm.2.1 x
  intro b hb
  have hw : s_want p = m_isW (mL v) t := by rw [want_bq, hp.n, m_isW]
  unfold n_so
  cases hq : (mL v).2 t 0 with
  | false =>
    have hw1 : s_want p = true := by rw [hw, m_isW, hq]; rfl
    rw [if_pos hw1, hp b hb]
    unfold rot m_isL
    rw [hx]
    by_cases h1 : b < 48
    · rw [if_pos h1, decide_eq_true h1]
      by_cases h2 : b < mV v x
      · rw [if_pos h2, m_isW, hq]; cases (mL v).2 t (b + 1) <;> rfl
      · rw [if_neg h2, hv b (by omega) h1]; rfl
    · rw [if_neg h1, decide_eq_false h1]
      by_cases h2 : b = 48
      · rw [if_pos h2, hq]; rfl
      · rw [if_neg h2]; rfl
  | true =>
    have hw1 : ¬ s_want p = true := by rw [hw, m_isW, hq]; decide
    rw [if_neg hw1, bq_xor, hp b hb, hE b hb]
    unfold rot m_isL fullR
    rw [hx]
    by_cases h1 : b < 48
    · rw [if_pos h1, if_pos h1, decide_eq_true h1]
      by_cases h2 : b < mV v x
      · rw [if_pos h2, m_isW, hq, decide_eq_true (show b + 1 ≤ mV v x by omega)]; cases (mL v).2 t (b + 1) <;> rfl
      · rw [if_neg h2, hv b (by omega) h1, decide_eq_false (show ¬ b + 1 ≤ mV v x by omega)]; rfl
    · rw [if_neg h1, if_neg h1, decide_eq_false h1]
      by_cases h2 : b = 48
      · rw [if_pos h2, if_pos h2, hq]; rfl
      · rw [if_neg h2, if_neg h2]; rfl
theorem orS_bits (P : Nat → Bool) : ∀ n, n ≤ 48 → ∀ b, b < 64 → bq (orS P n) b = (decide (b < n) && P b) := by
  intro n
  induction n with
  | zero => intro _ b _; rw [orS, bq_0]; simp
  | succ n ih =>
    intro hn b hb
    rw [orS, bq_or, ih (by omega) b hb]
    by_cases hp : P n = true
    · rw [if_pos hp, bq_bit n (by omega) b hb]
      by_cases e : b = n
      · subst e; simp [hp]
      · by_cases l : b < n
        · simp [e, l, Nat.lt_succ_of_lt l]
        · have : ¬ b < n + 1 := by omega
          simp [e, l, this]
    · rw [if_neg hp, bq_0]
      by_cases e : b = n
      · subst e; simp [hp]
      · by_cases l : b < n
        · simp [l, Nat.lt_succ_of_lt l]
        · have : ¬ b < n + 1 := by omega
          simp [l, this]
theorem so_eq {u : US} {v : MS} (hm : mOk v) (hN : RelN u v) {t x : Nat} {p : Int64} (hs : SlotR v t x p) : n_so (uN u) (nI x) p = m_setOf (mV v) (mL v) t :=
  bq_ext (fun b hb => by rw [so_bits hm hN hs b hb, m_setOf, orS_bits _ 48 (Nat.le_refl _) b hb])
theorem cnt_64 {P : Nat → Bool} (h : ∀ b, 48 ≤ b → b < 64 → P b = false) : cntB P 64 = cntB P 48 := by
  rw [show (64 : Nat) = 48 + 16 from rfl, cnt_add]
  have : cntB (fun i => P (48 + i)) 16 = 0 := by
    rw [cnt_congr (Q := fun _ => false) (fun b hb => h (48 + b) (by omega) (by omega))]
    rfl
  omega
theorem desc_eq {u : US} {v : MS} (hm : mOk v) (hN : RelN u v) {t x : Nat} {p : Int64} (hs : SlotR v t x p) (w : Int32) : d_desc u (nI x) p w = m_about (mV v) (mL v) t w := by
  have hx := hs.1
  have hp := hs.2.2.1
  unfold d_desc m_about
  by_cases h0 : w = 0
  · rw [if_pos h0, if_pos h0, hx]
  · rw [if_neg h0, if_neg h0]
    by_cases h1 : w = 1
    · rw [if_pos h1, if_pos h1, want_bq, hp.n, m_isW]
    · rw [if_neg h1, if_neg h1]
      by_cases h2 : w = 2
      · rw [if_pos h2, if_pos h2, pcL_bq]
        have hb := so_bits hm hN hs
        rw [cnt_64 (fun b h1 h2 => by rw [hb b h2, decide_eq_false (by omega)]; rfl)]
        rw [cnt_congr (fun b hb2 => by rw [hb b (by omega), decide_eq_true hb2, Bool.true_and])]
      · rw [if_neg h2, if_neg h2]
theorem rel_about : H_about Rel := fun u v x w h => by
  obtain ⟨hm, hN, hT, hR, hC, hH, hG⟩ := h
  have hb := hm.1.2.1
  unfold d_about m_aboutP
  rw [hT.1]
  rcases hasIx_cases (n := mT v) (by omega) x with e | ⟨j, hj, ex, ec, e⟩
  · rw [if_neg (by rw [e]; decide), if_neg (by rw [e]; decide)]
  · obtain ⟨y, ey, hs⟩ := hT.2 j hj
    rw [if_pos e, if_pos e, t_nm, t_pl, if_pos (by rw [hT.1]; exact e), if_pos (by rw [hT.1]; exact e), ec, ey]
    exact desc_eq hm hN hs w
theorem rel_set : H_set Rel := fun u v x h => by
  obtain ⟨hm, hN, hT, hR, hC, hH, hG⟩ := h
  have hb := hm.1.2.1
  unfold d_set m_setP
  rw [hT.1]
  rcases hasIx_cases (n := mT v) (by omega) x with e | ⟨j, hj, ex, ec, e⟩
  · rw [if_neg (by rw [e]; decide), if_neg (by rw [e]; decide)]
  · obtain ⟨y, ey, hs⟩ := hT.2 j hj
    rw [if_pos e, if_pos e, t_nm, t_pl, if_pos (by rw [hT.1]; exact e), if_pos (by rw [hT.1]; exact e), ec, ey]
    exact so_eq hm hN hs
theorem rel_chosen : H_chosen Rel := fun u v x w h => by
  obtain ⟨hm, hN, hT, hR, hC, hH, hG⟩ := h
  have hb := hm.1.1
  unfold d_chosen m_chosen
  rw [hN.1]
  rcases hasIx_cases (n := mN v) (by omega) x with e | ⟨j, hj, ex, ec, e⟩
  · rw [if_neg (by rw [e]; decide), if_neg (by rw [e]; decide)]
  · rw [if_pos e, if_pos e, ec, ex]
    exact desc_eq hm hN (hH j hj) w
theorem rel_chosenSet : H_chosenSet Rel := fun u v x h => by
  obtain ⟨hm, hN, hT, hR, hC, hH, hG⟩ := h
  have hb := hm.1.1
  unfold d_chosenSet m_chosenSet
  rw [hN.1]
  rcases hasIx_cases (n := mN v) (by omega) x with e | ⟨j, hj, ex, ec, e⟩
  · rw [if_neg (by rw [e]; decide), if_neg (by rw [e]; decide)]
  · rw [if_pos e, if_pos e, ec, ex]
    exact so_eq hm hN (hH j hj)
theorem rel_relate : H_relate Rel := fun u v x y h => by
  obtain ⟨hm, hN, hT, hR, hC, hH, hG⟩ := h
  have hb := hm.1.2.1
  unfold d_relate m_relate
  rw [hT.1]
  rcases hasIx_cases (n := mT v) (by omega) x with e | ⟨j, hj, ex, ec, e⟩
  · rw [if_neg (by rw [e]; decide), if_neg (by rw [e]; decide)]
  · rcases hasIx_cases (n := mT v) (by omega) y with f | ⟨k, hk, fy, fc, f⟩
    · rw [if_pos e, if_pos e, if_neg (by rw [f]; decide), if_neg (by rw [f]; decide)]
    · obtain ⟨x1, ex1, hs1, hx1, hp1, hv1⟩ := hT.2 j hj
      obtain ⟨y1, ey1, hs2, hy1, hp2, hv2⟩ := hT.2 k hk
      have e1 : t_pl (uT u) x = (uT u).2.2 j := by rw [t_pl, if_pos (by rw [hT.1]; exact e), ec]
      have e2 : t_pl (uT u) y = (uT u).2.2 k := by rw [t_pl, if_pos (by rw [hT.1]; exact f), fc]
      have e3 : t_nm (uT u) x = nI ((mL v).1 j) := by rw [t_nm, if_pos (by rw [hT.1]; exact e), ec, ex1, hs1]
      have e4 : t_nm (uT u) y = nI ((mL v).1 k) := by rw [t_nm, if_pos (by rw [hT.1]; exact f), fc, ey1, hs2]
      rw [if_pos e, if_pos e, if_pos f, if_pos f, e1, e2, e3, e4, ec, fc]
      have hz : (uT u).2.2 j = 0 ↔ m_rel (mL v) j j = -1 := by
        have hr := rel_PR hp1 hp1
        rw [← hr, hp1.zero]
        unfold s_rel
        constructor
        · intro k
          rw [if_pos ((hp1.and hp1).zero.mpr (fun b hb => by rw [k b hb]; rfl))]
        · intro k b hb
          by_cases hz : ((uT u).2.2 j &&& (uT u).2.2 j) = 0
          · have := (hp1.and hp1).zero.mp hz b hb
            revert this
            cases (mL v).2 j b <;> simp
          · rw [if_neg hz] at k
            by_cases hq : ((uT u).2.2 j &&& ((uT u).2.2 j ^^^ (-1))) = 0
            · rw [if_pos hq] at k
              exact absurd k (by decide)
            · rw [if_neg hq] at k
              exact absurd k (by decide)
      by_cases h0 : (uT u).2.2 j = 0
      · rw [if_pos h0, if_pos (hz.mp h0)]
        unfold s_rel
        rw [if_pos (by rw [h0]; exact Int64.zero_and)]
      · rw [if_neg h0, if_neg (fun z => h0 (hz.mpr z))]
        by_cases h1 : nI ((mL v).1 j) = nI ((mL v).1 k)
        · rw [if_pos h1, if_pos h1]
          exact rel_PR hp1 hp2
        · rw [if_neg h1, if_neg h1]
