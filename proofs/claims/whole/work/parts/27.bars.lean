/-! the names of a bar, in their order -/
theorem cnt_nm {S : Nat → Bool} {nm : Nat → Nat} {P : Nat} (h1 : ∀ i, i < P → S (nm i) = true) (h2 : ∀ i j, i < j → j < P → nm i < nm j) (h3 : ∀ x, x < 16 → S x = true → ∃ i, i < P ∧ nm i = x) : ∀ (x i : Nat), x ≤ 16 → i ≤ P → (∀ j, j < i → nm j < x) → (∀ j, i ≤ j → j < P → x ≤ nm j) → cntB S x = i := by
  intro x
  induction x with
  | zero =>
    intro i _ _ g1 _
    cases i with
    | zero => rfl
    | succ i => exact absurd (g1 i (by omega)) (Nat.not_lt_zero _)
  | succ x ih =>
    intro i hx hi g1 g2
    rw [cntB]
    by_cases hs : S x = true
    · rw [if_pos hs]
      obtain ⟨j, hj, e⟩ := h3 x (by omega) hs
      have hji : j < i := by
        rcases Nat.lt_or_ge j i with q | q
        · exact q
        · have := g2 j q hj; omega
      have hj1 : j = i - 1 := by
        rcases Nat.lt_or_ge j (i - 1) with q | q
        · have a := h2 j (i - 1) q (by omega)
          have b := g1 (i - 1) (by omega)
          omega
        · omega
      rw [ih (i - 1) (by omega) (by omega) (fun a ha => by rw [← e, hj1]; exact h2 a _ ha (by omega)) (fun a ha hP => by
        by_cases q : a = i - 1
        · rw [q, ← hj1, e]; exact Nat.le_refl _
        · have := h2 j a (by omega) hP; omega)]
      omega
    · rw [if_neg hs]
      rw [ih i (by omega) hi (fun j hj => by
        have a := g1 j hj
        have b : nm j ≠ x := fun q => hs (by rw [← q]; exact h1 j (by omega))
        omega) (fun j hj hP => by have := g2 j hj hP; omega)]
      rfl
theorem fnd_some {P : Nat → Bool} : ∀ (n i j : Nat), P j = true → i ≤ j → j < i + n → (∀ a, i ≤ a → a < j → P a = false) → fnd P n i = some j := by
  intro n
  induction n with
  | zero => intro i j _ h1 h2; omega
  | succ n ih =>
    intro i j hp h1 h2 h3
    rw [fnd]
    by_cases e : j = i
    · subst e; rw [if_pos hp]
    · rw [if_neg (by rw [h3 i (Nat.le_refl _) (by omega)]; decide)]
      exact ih (i + 1) j hp (by omega) (by omega) (fun a ha hb => h3 a (by omega) hb)
theorem fnd_none {P : Nat → Bool} : ∀ (n i : Nat), (∀ a, i ≤ a → a < i + n → P a = false) → fnd P n i = none := by
  intro n
  induction n with
  | zero => intro i _; rfl
  | succ n ih =>
    intro i h
    rw [fnd, if_neg (by rw [h i (Nat.le_refl _) (by omega)]; decide)]
    exact ih (i + 1) (fun a ha hb => h a (by omega) (by omega))
theorem fnd_congr {P Q : Nat → Bool} : ∀ (n i : Nat), (∀ a, i ≤ a → a < i + n → P a = Q a) → fnd P n i = fnd Q n i := by
  intro n
  induction n with
  | zero => intro i _; rfl
  | succ n ih =>
    intro i h
    rw [fnd, fnd, h i (Nat.le_refl _) (by omega), ih (i + 1) (fun a ha hb => h a (by omega) (by omega))]
section BR
variable {u : US} {v : MS} {k h : Nat}
theorem bar_cnt (hm : mOk v) (hb : BarP u v k h) {i : Nat} (hi : i < mP v k) : cntB h.testBit ((mL v).1 (600 + 16 * k + i)) = i := by
  obtain ⟨a1, a2, a3, a4, a5, a6⟩ := hb
  have hn := hm.2.2.1 (600 + 16 * k + i)
  refine cnt_nm (nm := fun i => (mL v).1 (600 + 16 * k + i)) (fun i hi => (a3 i hi).1) a4 a5 _ i (by omega) (by omega) (fun j hj => a4 j i hj hi) (fun j hj hP => ?_)
  by_cases e : i = j
  · rw [e]; exact Nat.le_refl _
  · exact Nat.le_of_lt (a4 i j (by omega) hP)
theorem bar_cnt16 (hm : mOk v) (hb : BarP u v k h) : cntB h.testBit 16 = mP v k := by
  obtain ⟨a1, a2, a3, a4, a5, a6⟩ := hb
  exact cnt_nm (nm := fun i => (mL v).1 (600 + 16 * k + i)) (fun i hi => (a3 i hi).1) a4 a5 16 _ (Nat.le_refl _) (Nat.le_refl _) (fun j hj => hm.2.2.1 _) (fun j h1 h2 => by omega)
theorem in16_j {j : Nat} (hj : j < 16) : c_in16 (nI j) = true := by
  unfold c_in16
  rw [if_neg (nI_pos (by omega)), if_neg (show ¬ (16 : Int32) ≤ nI j from nI_ge (b := 16) hj (by decide))]
theorem holds_k {c : CS} {K x : Int32} (h : hasIx c.1 K = false) : c_holds c K x = false := by
  unfold c_holds
  rw [if_neg (by rw [h]; decide)]
theorem holds_x {c : CS} {K x : Int32} (h : ¬ ∃ j : Nat, j < 16 ∧ x = nI j) : c_holds c K x = false := by
  cases hc : c_holds c K x with
  | false => rfl
  | true =>
    obtain ⟨_, h2, h3⟩ := c_holds_t hc
    exact absurd (in16_nI h2 h3) h
theorem holds_raw {c : CS} {h : Nat} (hk : k < c.1) (hc : c.1 ≤ 300) (e : cH c k = nI h) (hh : h < 65536) {j : Nat} (hj : j < 16) : c_holds c (nI k) (nI j) = h.testBit j := by
  unfold c_holds
  rw [if_pos (hasIx_nI (by omega) hk), if_pos (in16_j hj), nI_clamp (by omega), e]
  cases hq : h.testBit j with
  | false => rw [if_pos ((nx_bit hh hj).mpr hq)]
  | true => rw [if_neg (fun z => by rw [(nx_bit hh hj).mp z] at hq; cases hq)]
theorem holds_eq (hm : mOk v) (hC : RelC u v) (hk : k < mB v) (hb : BarP u v k h) {j : Nat} (hj : j < 16) : c_holds (uC u) (nI k) (nI j) = h.testBit j :=
  holds_raw (by rw [hC.1]; exact hk) (by rw [hC.1]; exact hm.1.2.2.1) hb.1 hb.2.1 hj
theorem parts_eq (hm : mOk v) (hC : RelC u v) (hk : k < mB v) (hb : BarP u v k h) : c_parts (uC u) (nI k) = nI (mP v k) := by
  have h3 := hm.1.2.2.1
  rw [c_parts, if_pos (by rw [hC.1]; exact hasIx_nI (by omega) hk), nI_clamp (by omega), hb.1, pcI_16 hb.2.1, bar_cnt16 hm hb]
theorem ix_raw (hm : mOk v) (hC : RelC u v) (hk : k < mB v) (hb : BarP u v k h) {j : Nat} (hj : j < 16) : c_ix (uC u) (nI k) (nI j) = if h.testBit j = true then nI (cntB h.testBit j) else -1 := by
  have h3 := hm.1.2.2.1
  rw [c_ix, holds_eq hm hC hk hb hj, nI_clamp (by omega), hb.1, pcI_m hb.2.1 hj]
theorem ix_eq (hm : mOk v) (hC : RelC u v) (hk : k < mB v) (hb : BarP u v k h) {i : Nat} (hi : i < mP v k) : c_ix (uC u) (nI k) (nI ((mL v).1 (600 + 16 * k + i))) = nI i := by
  rw [ix_raw hm hC hk hb (hm.2.2.1 _), if_pos (hb.2.2.1 i hi).1, bar_cnt hm hb hi]
theorem pl_eq (hm : mOk v) (hC : RelC u v) (hk : k < mB v) (hb : BarP u v k h) {i : Nat} (hi : i < mP v k) : c_pl (uC u) (nI k) (nI ((mL v).1 (600 + 16 * k + i))) = cP (uC u) (k * 16 + (mL v).1 (600 + 16 * k + i)) := by
  have h3 := hm.1.2.2.1
  have h4 := hm.2.2.1 (600 + 16 * k + i)
  rw [c_pl, holds_eq hm hC hk hb (hm.2.2.1 _), if_pos (hb.2.2.1 i hi).1, nI_clamp (by omega), nI_clamp (by omega)]
theorem nm_inj (hb : BarP u v k h) {i j : Nat} (hi : i < mP v k) (hj : j < mP v k) (e : (mL v).1 (600 + 16 * k + i) = (mL v).1 (600 + 16 * k + j)) : i = j := by
  rcases Nat.lt_trichotomy i j with q | q | q
  · have := hb.2.2.2.1 i j q hj; omega
  · exact q
  · have := hb.2.2.2.1 j i q hi; omega
theorem nameAt_i (hm : mOk v) (hC : RelC u v) (hk : k < mB v) (hb : BarP u v k h) {i : Nat} (hi : i < mP v k) : c_nameAt (uC u) (nI k) (nI i) = nI ((mL v).1 (600 + 16 * k + i)) := by
  have hn := hm.2.2.1 (600 + 16 * k + i)
  have h6 := hb.2.2.2.2.2
  rw [c_nameAt, fnd_some 16 0 ((mL v).1 (600 + 16 * k + i))]
  · rfl
  · show (if c_holds (uC u) (nI k) (nI _) = true then decide (c_ix (uC u) (nI k) (nI _) = nI i) else false) = true
    rw [if_pos (by rw [holds_eq hm hC hk hb hn]; exact (hb.2.2.1 i hi).1), ix_eq hm hC hk hb hi]
    exact decide_eq_true rfl
  · omega
  · omega
  · intro a _ ha
    show (if c_holds (uC u) (nI k) (nI a) = true then decide (c_ix (uC u) (nI k) (nI a) = nI i) else false) = false
    by_cases c : c_holds (uC u) (nI k) (nI a) = true
    · rw [if_pos c]
      rw [holds_eq hm hC hk hb (by omega)] at c
      obtain ⟨j, hj, ej⟩ := hb.2.2.2.2.1 a (by omega) c
      rw [← ej, ix_eq hm hC hk hb hj]
      refine decide_eq_false (fun q => ?_)
      have := (nI_eq (by omega) (by omega)).mp q
      subst this
      omega
    · rw [if_neg c]
theorem nameAt_no (hm : mOk v) (hC : RelC u v) {K x : Int32} (hn : m_isPt v K x = false) : c_nameAt (uC u) K x = -1 := by
  have h3 := hm.1.2.2.1
  rw [c_nameAt, fnd_none]
  · rfl
  · intro a _ ha
    show (if c_holds (uC u) K (nI a) = true then decide (c_ix (uC u) K (nI a) = x) else false) = false
    rcases hasIx_cases (n := mB v) (by omega) K with e | ⟨k, hk, ek, ec, e⟩
    · rw [holds_k (by rw [hC.1]; exact e)]; rfl
    · subst ek
      by_cases c : c_holds (uC u) (nI k) (nI a) = true
      · rw [if_pos c]
        obtain ⟨⟨h, hb⟩, -⟩ := hC.2 k hk
        rw [holds_eq hm hC hk hb (by omega)] at c
        obtain ⟨j, hj, ej⟩ := hb.2.2.2.2.1 a (by omega) c
        rw [← ej, ix_eq hm hC hk hb hj]
        have h6 := hb.2.2.2.2.2
        refine decide_eq_false (fun q => ?_)
        subst q
        have : m_isPt v (nI k) (nI j) = true := by
          unfold m_isPt
          rw [if_pos e, if_neg (nI_pos (by omega)), ec, if_neg (nI_ge hj (by omega))]
        rw [this] at hn
        cases hn
      · rw [if_neg c]
end BR
theorem rel_terms : H_terms Rel := fun u v x h => by
  obtain ⟨hm, hN, hT, hR, hC, hH, hG⟩ := h
  have h3 := hm.1.2.2.1
  unfold d_terms m_terms
  rw [hC.1]
  rcases hasIx_cases (n := mB v) (by omega) x with e | ⟨k, hk, ek, ec, e⟩
  · rw [if_neg (by rw [e]; decide), if_neg (by rw [e]; decide)]
  · rw [if_pos e, if_pos e, ec, ek]
    obtain ⟨⟨h, hb⟩, -⟩ := hC.2 k hk
    exact parts_eq hm hC hk hb
theorem part_t {u : US} {v : MS} (h : Rel u v) {K x : Int32} (ht : m_isPt v K x = true) : ∃ y p, c_nameAt (uC u) K x = nI y ∧ y < 16 ∧ c_pl (uC u) K (nI y) = p ∧ SlotR v (m_slot K x) y p := by
  obtain ⟨hm, hN, hT, hR, hC, hH, hG⟩ := h
  obtain ⟨e1, h1, e2, h2⟩ := isPt_t hm ht
  have hk : K.toNatClampNeg < mB v := by
    unfold m_isPt at ht
    rcases hasIx_cases (n := mB v) (by have := hm.1.2.2.1; omega) K with e | ⟨k, hk, ek, ec, e⟩
    · rw [if_neg (by rw [e]; decide)] at ht; cases ht
    · rw [ec]; exact hk
  unfold m_slot
  generalize K.toNatClampNeg = k at e1 h1 h2 hk ⊢
  generalize x.toNatClampNeg = i at e2 h2 ⊢
  subst e1 e2
  obtain ⟨⟨h, hb⟩, -⟩ := hC.2 k hk
  exact ⟨(mL v).1 (600 + 16 * k + i), _, nameAt_i hm hC hk hb h2, hm.2.2.1 _, pl_eq hm hC hk hb h2, (hb.2.2.1 i h2).2⟩
theorem rel_part : H_part Rel := fun u v x y w h => by
  have hR0 := h
  obtain ⟨hm, hN, hT, hR, hC, hH, hG⟩ := h
  unfold d_part m_part
  cases hp : m_isPt v x y with
  | false => rw [if_pos (nameAt_no hm hC hp), if_neg (by decide)]
  | true =>
    obtain ⟨z, p, e1, hz, e2, hs⟩ := part_t hR0 hp
    rw [e1, if_neg (nI_ne_m1 (by omega)), if_pos rfl, e2]
    exact desc_eq hm hN hs w
theorem rel_partSet : H_partSet Rel := fun u v x y h => by
  have hR0 := h
  obtain ⟨hm, hN, hT, hR, hC, hH, hG⟩ := h
  unfold d_partSet m_partSet
  cases hp : m_isPt v x y with
  | false => rw [if_pos (nameAt_no hm hC hp), if_neg (by decide)]
  | true =>
    obtain ⟨z, p, e1, hz, e2, hs⟩ := part_t hR0 hp
    rw [e1, if_neg (nI_ne_m1 (by omega)), if_pos rfl, e2]
    exact so_eq hm hN hs
