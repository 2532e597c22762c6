/-! state, forced -/
theorem cnt_bij {B : Nat → Bool} {nm : Nat → Nat} {P : Nat} (h2 : ∀ i j, i < j → j < P → nm i < nm j) : ∀ (x i : Nat), (∀ y, y < x → B y = true → ∃ i, i < P ∧ nm i = y) → i ≤ P → (∀ j, j < i → nm j < x) → (∀ j, i ≤ j → j < P → x ≤ nm j) → cntB B x = cntB (fun j => B (nm j)) i := by
  intro x
  induction x with
  | zero =>
    intro i _ _ g1 _
    cases i with
    | zero => rfl
    | succ i => exact absurd (g1 i (by omega)) (Nat.not_lt_zero _)
  | succ x ih =>
    intro i h3 hi g1 g2
    rw [cntB]
    by_cases hs : ∃ j, j < P ∧ nm j = x
    · obtain ⟨j, hj, e⟩ := hs
      have hji : j < i := by
        rcases Nat.lt_or_ge j i with q | q
        · exact q
        · have := g2 j q hj; omega
      have hj1 : i = j + 1 := by
        rcases Nat.lt_or_ge j (i - 1) with q | q
        · have a := h2 j (i - 1) q (by omega)
          have b := g1 (i - 1) (by omega)
          omega
        · omega
      subst hj1
      rw [ih j (fun y hy hb => h3 y (by omega) hb) (by omega) (fun a ha => by rw [← e]; exact h2 a _ ha hj) (fun a ha hP => by
        by_cases q : a = j
        · rw [q, e]; exact Nat.le_refl _
        · have := h2 j a (by omega) hP; omega), cntB, e]
    · have hb : ¬ B x = true := fun q => hs (h3 x (by omega) q)
      rw [if_neg hb, ih i (fun y hy hb => h3 y (by omega) hb) hi (fun j hj => by
        have a := g1 j hj
        have b : nm j ≠ x := fun q => hs ⟨j, by omega, q⟩
        omega) (fun j hj hP => by have := g2 j hj hP; omega)]
      rfl
theorem cnt_zero {P : Nat → Bool} : ∀ {n : Nat}, cntB P n = 0 ↔ ∀ i, i < n → P i = false := by
  intro n
  induction n with
  | zero => exact ⟨fun _ i hi => absurd hi (Nat.not_lt_zero _), fun _ => rfl⟩
  | succ n ih =>
    rw [cntB]
    constructor
    · intro h i hi
      by_cases e : i = n
      · subst e
        cases hp : P i with
        | false => rfl
        | true => rw [hp, if_pos rfl] at h; omega
      · exact ih.mp (by omega) i (by omega)
    · intro h
      rw [ih.mpr (fun i hi => h i (by omega)), h n (by omega)]
      rfl
theorem cnt_pos {P : Nat → Bool} {n : Nat} : 0 < cntB P n ↔ ∃ i, i < n ∧ P i = true := by
  constructor
  · intro h
    by_cases g : ∃ i, i < n ∧ P i = true
    · exact g
    · have : cntB P n = 0 := cnt_zero.mpr (fun i hi => by
        cases hp : P i with
        | false => rfl
        | true => exact absurd ⟨i, hi, hp⟩ g)
      omega
  · rintro ⟨i, hi, hp⟩
    rcases Nat.eq_zero_or_pos (cntB P n) with q | q
    · rw [cnt_zero.mp q i hi] at hp; cases hp
    · exact q
theorem cnt_one {P : Nat → Bool} : ∀ {n : Nat}, cntB P n = 1 → ∀ i j, i < n → j < n → P i = true → P j = true → i = j := by
  intro n
  induction n with
  | zero => intro h; cases h
  | succ n ih =>
    intro h i j hi hj pi pj
    rw [cntB] at h
    by_cases hp : P n = true
    · rw [if_pos hp] at h
      have hz := cnt_zero.mp (show cntB P n = 0 by omega)
      have a : i = n := by
        by_cases e : i = n
        · exact e
        · rw [hz i (by omega)] at pi; cases pi
      have b : j = n := by
        by_cases e : j = n
        · exact e
        · rw [hz j (by omega)] at pj; cases pj
      omega
    · rw [if_neg hp] at h
      have a : i ≠ n := fun q => hp (by rw [← q]; exact pi)
      have b : j ≠ n := fun q => hp (by rw [← q]; exact pj)
      exact ih h i j (by omega) (by omega) pi pj
def stFin (o : Nat) : Int32 := if o = 0 then 1 else if o = 1 then 2 else 0
def stB (u : US) (K : Int32) (s : Int32) (x : Nat) : Bool := c_holds (uC u) K (nI x) && decide (d_rel u K (nI x) = s)
theorem stl_no (u : US) (K : Int32) : ∀ n i o, (∃ x, i ≤ x ∧ x < i + n ∧ stB u K (-1) x = true) → d_stl u K n i o = -1 := by
  intro n
  induction n with
  | zero => rintro i o ⟨x, h1, h2, _⟩; omega
  | succ n ih =>
    rintro i o ⟨x, h1, h2, h3⟩
    rw [d_stl]
    by_cases c : c_holds (uC u) K (nI i) = true
    · rw [if_pos c]
      by_cases d : d_rel u K (nI i) = -1
      · rw [if_pos d]
      · rw [if_neg d]
        have hne : x ≠ i := by
          intro q; subst q
          unfold stB at h3
          rw [decide_eq_false d] at h3
          simp at h3
        have := fun o => ih (i + 1) o ⟨x, by omega, by omega, h3⟩
        by_cases f : d_rel u K (nI i) = 0
        · rw [if_pos f, this]
        · rw [if_neg f, this]
    · rw [if_neg c]
      have hne : x ≠ i := by
        intro q; subst q
        unfold stB at h3
        simp [c] at h3
      exact ih (i + 1) o ⟨x, by omega, by omega, h3⟩
theorem stl_yes (u : US) (K : Int32) : ∀ n i o, (∀ x, i ≤ x → x < i + n → stB u K (-1) x = false) → d_stl u K n i o = stFin (o + cntB (fun x => stB u K 0 (i + x)) n) := by
  intro n
  induction n with
  | zero => intro i o _; rfl
  | succ n ih =>
    intro i o h
    have hi := h i (Nat.le_refl _) (by omega)
    have e : cntB (fun x => stB u K 0 (i + x)) (n + 1) = (if stB u K 0 i = true then 1 else 0) + cntB (fun x => stB u K 0 (i + 1 + x)) n := by
      rw [show n + 1 = 1 + n by omega, cnt_add]
      congr 1
      · show 0 + _ = _
        rw [Nat.zero_add]; rfl
      · exact cnt_congr (fun b _ => by rw [show i + (1 + b) = i + 1 + b by omega])
    have h' : ∀ x, i + 1 ≤ x → x < i + 1 + n → stB u K (-1) x = false := fun x h1 h2 => h x (by omega) (by omega)
    rw [d_stl, e]
    by_cases c : c_holds (uC u) K (nI i) = true
    · rw [if_pos c]
      have d : ¬ d_rel u K (nI i) = -1 := fun q => by
        unfold stB at hi
        rw [c, decide_eq_true q] at hi
        cases hi
      rw [if_neg d]
      by_cases f : d_rel u K (nI i) = 0
      · rw [if_pos f, ih _ _ h', if_pos (by unfold stB; rw [c, decide_eq_true f]; rfl)]
        congr 1
        omega
      · rw [if_neg f, ih _ _ h', if_neg (by unfold stB; rw [c, decide_eq_false f]; decide), Nat.zero_add]
    · rw [if_neg c, ih _ _ h', if_neg (by unfold stB; simp [c]), Nat.zero_add]
section ST
variable {u : US} {v : MS} {k : Nat}
theorem stB_i (h : Rel u v) (hk : k < mB v) {i : Nat} (hi : i < mP v k) : d_rel u (nI k) (nI ((mL v).1 (600 + 16 * k + i))) = m_sto v (600 + 16 * k + i) := by
  obtain ⟨hm, hN, hT, hR, hC, hH, hG⟩ := h
  obtain ⟨⟨hh, hb⟩, -⟩ := hC.2 k hk
  have hs := (hb.2.2.1 i hi).2
  have h16 := hm.1.1
  have hn := hs.2.1
  rw [d_rel, if_pos (by rw [hN.1]; exact hasIx_nI (by omega) hn), nI_clamp (by omega), pl_eq hm hC hk hb hi, m_sto]
  exact rel_PR (hH _ hn).2.2.1 hs.2.2.1
theorem stB_nm (h : Rel u v) (hk : k < mB v) (s : Int32) {i : Nat} (hi : i < mP v k) : stB u (nI k) s ((mL v).1 (600 + 16 * k + i)) = decide (m_sto v (600 + 16 * k + i) = s) := by
  have e := stB_i h hk hi
  obtain ⟨hm, hN, hT, hR, hC, hH, hG⟩ := h
  obtain ⟨⟨hh, hb⟩, -⟩ := hC.2 k hk
  unfold stB
  rw [e, holds_eq hm hC hk hb (hm.2.2.1 _), (hb.2.2.1 i hi).1, Bool.true_and]
theorem stB_ex (h : Rel u v) (hk : k < mB v) (s : Int32) {x : Nat} (hx : x < mN v) (hs : stB u (nI k) s x = true) : ∃ i, i < mP v k ∧ (mL v).1 (600 + 16 * k + i) = x := by
  obtain ⟨hm, hN, hT, hR, hC, hH, hG⟩ := h
  obtain ⟨⟨hh, hb⟩, -⟩ := hC.2 k hk
  have h16 := hm.1.1
  unfold stB at hs
  rw [holds_eq hm hC hk hb (by omega), Bool.and_eq_true] at hs
  exact hb.2.2.2.2.1 x (by omega) hs.1
theorem stB_cnt (h : Rel u v) (hk : k < mB v) (s : Int32) : cntB (stB u (nI k) s) (mN v) = m_ct v k s := by
  have hR0 := h
  obtain ⟨hm, hN, hT, hR, hC, hH, hG⟩ := h
  obtain ⟨⟨hh, hb⟩, -⟩ := hC.2 k hk
  rw [cnt_bij (nm := fun i => (mL v).1 (600 + 16 * k + i)) (P := mP v k) hb.2.2.2.1 (mN v) (mP v k) (fun y hy e => stB_ex hR0 hk s hy e) (Nat.le_refl _) (fun j hj => (hb.2.2.1 j hj).2.2.1) (fun j h1 h2 => by omega), m_ct]
  exact cnt_congr (fun b hb => stB_nm hR0 hk s hb)
theorem st_eq (h : Rel u v) (hk : k < mB v) : d_st u (nI k) = m_look v k := by
  have c1 := stB_cnt h hk (-1)
  have c0 := stB_cnt h hk 0
  have hN := h.2.1
  unfold d_st m_look
  rw [hN.1]
  by_cases e : 0 < m_ct v k (-1)
  · rw [if_pos e]
    rw [← c1] at e
    obtain ⟨x, hx, e⟩ := cnt_pos.mp e
    exact stl_no _ _ _ _ _ ⟨x, Nat.zero_le _, by omega, e⟩
  · rw [if_neg e]
    have hz := cnt_zero.mp (show cntB (stB u (nI k) (-1)) (mN v) = 0 by omega)
    rw [stl_yes _ _ _ _ _ (fun x _ h2 => hz x (by omega))]
    rw [cnt_congr (Q := stB u (nI k) 0) (fun b _ => by rw [Nat.zero_add]), c0, Nat.zero_add]
    rfl
theorem opl_t : ∀ n i, m_opl v k n = some i → i < n ∧ m_sto v (600 + 16 * k + i) = 0 := by
  intro n
  induction n with
  | zero => intro i h; cases h
  | succ n ih =>
    intro i h
    rw [m_opl] at h
    by_cases c : m_sto v (600 + 16 * k + n) = 0
    · rw [if_pos c] at h
      have e := Option.some.inj h
      subst e
      exact ⟨by omega, c⟩
    · rw [if_neg c] at h
      have := ih i h
      exact ⟨by omega, this.2⟩
theorem on_eq (h : Rel u v) (hk : k < mB v) (h2 : m_look v k = 2) : ∃ i, i < mP v k ∧ m_op v k = some i ∧ d_on u (nI k) = nI ((mL v).1 (600 + 16 * k + i)) ∧ m_sto v (600 + 16 * k + i) = 0 := by
  have hR0 := h
  obtain ⟨i, e, hi⟩ := look_op h2
  obtain ⟨-, hz⟩ := opl_t _ _ e
  have ct : m_ct v k 0 = 1 := by
    unfold m_look at h2
    by_cases a : 0 < m_ct v k (-1)
    · rw [if_pos a] at h2; exact absurd h2 (by decide)
    · rw [if_neg a] at h2
      by_cases b : m_ct v k 0 = 0
      · rw [if_pos b] at h2; exact absurd h2 (by decide)
      · rw [if_neg b] at h2
        by_cases c : m_ct v k 0 = 1
        · exact c
        · rw [if_neg c] at h2; exact absurd h2 (by decide)
  have c1 := (stB_cnt h hk 0).trans ct
  obtain ⟨hm, hN, hT, hR, hC, hH, hG⟩ := h
  obtain ⟨⟨hh, hb⟩, -⟩ := hC.2 k hk
  have hx := (hb.2.2.1 i hi).2.2.1
  have hxt : stB u (nI k) 0 ((mL v).1 (600 + 16 * k + i)) = true := by rw [stB_nm hR0 hk 0 hi]; exact decide_eq_true hz
  refine ⟨i, hi, e, ?_, hz⟩
  have ef : ∀ a, (if c_holds (uC u) (nI k) (nI a) = true then decide (d_rel u (nI k) (nI a) = 0) else false) = stB u (nI k) 0 a := fun a => by
    unfold stB
    cases c_holds (uC u) (nI k) (nI a) <;> rfl
  rw [d_on, fnd_congr (Q := stB u (nI k) 0) _ _ (fun a _ _ => ef a), hN.1, fnd_some _ _ _ hxt (Nat.zero_le _) (by omega) (fun a _ ha => by
    cases q : stB u (nI k) 0 a with
    | false => rfl
    | true =>
      have := cnt_one c1 a _ (by omega) hx q hxt
      omega)]
  rfl
end ST
theorem rel_state : H_state Rel := fun u v x h => by
  have hR0 := h
  obtain ⟨hm, hN, hT, hR, hC, hH, hG⟩ := h
  have h3 := hm.1.2.2.1
  unfold d_state m_state
  rw [hC.1]
  rcases hasIx_cases (n := mB v) (by omega) x with e | ⟨k, hk, ek, ec, e⟩
  · rw [if_neg (by rw [e]; decide), if_neg (by rw [e]; decide)]
  · rw [if_pos e, if_pos e, ec, ek]
    exact st_eq hR0 hk
theorem rel_forced : H_forced Rel := fun u v x h => by
  have hR0 := h
  obtain ⟨hm, hN, hT, hR, hC, hH, hG⟩ := h
  have h3 := hm.1.2.2.1
  unfold d_forced m_forced
  rw [hC.1]
  rcases hasIx_cases (n := mB v) (by omega) x with e | ⟨k, hk, ek, ec, e⟩
  · rw [if_neg (by rw [e]; decide), if_neg (by rw [e]; decide)]
  · rw [if_pos e, if_pos e, ec, ek, st_eq hR0 hk]
    by_cases c : m_look v k = 2
    · rw [if_pos c, if_pos c]
      obtain ⟨i, hi, e1, e2, -⟩ := on_eq hR0 hk c
      obtain ⟨⟨hh, hb⟩, -⟩ := hC.2 k hk
      rw [e1, e2, ix_eq hm hC hk hb hi]
      rfl
    · rw [if_neg c, if_neg c]
