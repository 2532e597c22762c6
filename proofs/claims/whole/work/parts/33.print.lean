/-! print -/
def wr (g : GS) : List Int32 → GS
  | [] => g
  | x :: l => wr (m_put g x) l
theorem wr_app (l1 l2 : List Int32) : ∀ g, wr g (l1 ++ l2) = wr (wr g l1) l2 := by
  induction l1 with
  | nil => intro g; rfl
  | cons x l ih => intro g; exact ih _
theorem wr_len (l : List Int32) : ∀ g, (wr g l).1 = g.1 + l.length := by
  induction l with
  | nil => intro g; rfl
  | cons x l ih =>
    intro g
    rw [wr, ih, List.length_cons]
    show g.1 + 1 + l.length = _
    omega
/-- two pages with the same text -/
def GR (g g' : GS) : Prop := g.1 = g'.1 ∧ ∀ i, i < g'.1 → g.2 i = g'.2 i
theorem GR.put {g g' : GS} (h : GR g g') (hb : g'.1 < 1648) {x y : Int32} (e : vp_nar .char x = y) : GR (g_put g x) (m_put g' y) := by
  unfold g_put
  rw [if_neg (show ¬ (1648 : Int32) ≤ nI g.1 from nI_ge (b := 1648) (by rw [h.1]; exact hb) (by decide)), e]
  refine ⟨congrArg (· + 1) h.1, fun i hi => ?_⟩
  have hi : i < g'.1 + 1 := hi
  show upd g.2 g.1 y i = upd g'.2 g'.1 y i
  rw [h.1]
  by_cases c : i = g'.1
  · simp [upd, c]
  · simp [upd, c, h.2 i (by omega)]
def numL (x : Nat) : List Int32 := if nI x ≤ 9 then [48 + (nI x - nI x / 10 * 10)] else [48 + nI x / 10, 48 + (nI x - nI x / 10 * 10)]
theorem num_wr (g : GS) (x : Nat) : m_num g x = wr g (numL x) := by
  unfold m_num numL
  by_cases c : nI x ≤ 9
  · rw [if_pos c, if_pos c]; rfl
  · rw [if_neg c, if_neg c]; rfl
theorem num_len (x : Nat) : (numL x).length ≤ 2 := by
  unfold numL
  by_cases c : nI x ≤ 9
  · rw [if_pos c]; exact Nat.le_succ 1
  · rw [if_neg c]; exact Nat.le_refl _
theorem nu1 : ∀ x, x < 48 → vp_nar .char (i2c (48 + (nI x - nI x / 10 * 10))) = 48 + (nI x - nI x / 10 * 10) := by decide +kernel
theorem nu2 : ∀ x, x < 48 → vp_nar .char (i2c (48 + nI x / 10)) = 48 + nI x / 10 := by decide +kernel
theorem nu3 : ∀ x, x < 48 → (nI x < 10 ↔ nI x ≤ 9) := by decide +kernel
theorem nu4 : ∀ x, x < 16 → vp_nar .char (i2c (97 + nI x)) = 97 + nI x := by decide +kernel
theorem GR.num {g g' : GS} (h : GR g g') {x : Nat} (hx : x < 48) (hb : g'.1 + (numL x).length ≤ 1648) : GR (g_num g (nI x)) (wr g' (numL x)) := by
  unfold g_num
  unfold numL at hb ⊢
  by_cases c : nI x ≤ 9
  · rw [if_pos c] at hb ⊢
    rw [if_pos ((nu3 x hx).mpr c)]
    have hb : g'.1 + 1 ≤ 1648 := hb
    exact h.put (by omega) (nu1 x hx)
  · rw [if_neg c] at hb ⊢
    rw [if_neg (fun q => c ((nu3 x hx).mp q))]
    have hb : g'.1 + 2 ≤ 1648 := hb
    exact (h.put (by omega) (nu2 x hx)).put (by show g'.1 + 1 < 1648; omega) (nu1 x hx)
-- the two ways to write a set
def stP (P : Nat → Bool) (v : Nat) : Bool := P v && !(decide (0 < v) && P (v - 1))
def enP (P : Nat → Bool) (v : Nat) : Bool := P v && !(P (v + 1))
def clsL (P : Nat → Bool) : Nat → Nat → Bool → List Int32
  | 0, _, _ => []
  | n + 1, v, f => if stP P v = true then (if f = true then [44] else []) ++ (numL v ++ clsL P n (v + 1) true) else if enP P v = true then 45 :: (numL v ++ clsL P n (v + 1) f) else clsL P n (v + 1) f
def refL (P : Nat → Bool) : Nat → Nat → Bool → List Int32
  | 0, _, _ => []
  | n + 1, i, f => if P i = true then (if 0 < i ∧ P (i - 1) = true then refL P n (i + 1) f else (if f = true then [44] else []) ++ (numL i ++ ((if m_le P (48 - i) i = i then [] else 45 :: numL (m_le P (48 - i) i)) ++ refL P n (i + 1) true))) else refL P n (i + 1) f
theorem ptl_wr (P : Nat → Bool) : ∀ (n i : Nat) (f : Bool) (g : GS), m_ptl P n i f g = wr g (refL P n i f) := by
  intro n
  induction n with
  | zero => intro i f g; rfl
  | succ n ih =>
    intro i f g
    rw [m_ptl, refL]
    by_cases c : P i = true
    · rw [if_pos c, if_pos c]
      by_cases d : 0 < i ∧ P (i - 1) = true
      · rw [if_pos d, if_pos d]; exact ih _ _ _
      · rw [if_neg d, if_neg d, ih, wr_app, wr_app, wr_app]
        congr 1
        have e : (if f = true then m_put g 44 else g) = wr g (if f = true then [44] else []) := by cases f <;> rfl
        unfold m_ptS
        rw [e, num_wr]
        by_cases q : m_le P (48 - i) i = i
        · rw [if_pos q, if_pos q]; rfl
        · rw [if_neg q, if_neg q, num_wr]; rfl
    · rw [if_neg c, if_neg c]; exact ih _ _ _
theorem le_ge (P : Nat → Bool) : ∀ n i, i ≤ m_le P n i := by
  intro n
  induction n with
  | zero => intro i; exact Nat.le_refl _
  | succ n ih =>
    intro i
    rw [m_le]
    by_cases c : P (i + 1) = true
    · rw [if_pos c]; have := ih (i + 1); omega
    · rw [if_neg c]; exact Nat.le_refl _
theorem cls_ref (P : Nat → Bool) (h48 : P 48 = false) : ∀ (n v : Nat) (f : Bool), v + n = 48 → clsL P n v f = (if 0 < v ∧ P (v - 1) = true ∧ P v = true then 45 :: numL (m_le P (48 - v) v) else []) ++ refL P n v f := by
  intro n
  induction n with
  | zero =>
    intro v f hv
    have e : v = 48 := by omega
    subst e
    rw [if_neg (by rw [h48]; simp)]
    rfl
  | succ n ih =>
    intro v f hv
    have e48 : 48 - v = n + 1 := by omega
    have e47 : 48 - (v + 1) = n := by omega
    have hmid : (0 < v + 1 ∧ P (v + 1 - 1) = true ∧ P (v + 1) = true) ↔ (P v = true ∧ P (v + 1) = true) := by
      rw [Nat.add_sub_cancel]
      exact ⟨fun q => q.2, fun q => ⟨Nat.succ_pos _, q⟩⟩
    have ih := fun f => ih (v + 1) f (by omega)
    rw [clsL, refL, e48, m_le]
    rw [e47] at ih
    unfold stP enP
    by_cases c : P v = true
    · by_cases d : 0 < v ∧ P (v - 1) = true
      · rw [if_pos (show 0 < v ∧ P (v - 1) = true ∧ P v = true from ⟨d.1, d.2, c⟩), if_pos c, if_pos d, if_neg (by simp [c, d.1, d.2]), ih]
        by_cases e : P (v + 1) = true
        · rw [if_neg (by simp [c, e]), if_pos e, if_pos (hmid.mpr ⟨c, e⟩)]
        · rw [if_pos (by simp [c, e]), if_neg e, if_neg (fun q => e (hmid.mp q).2)]
          rfl
      · have hst : (P v && !(decide (0 < v) && P (v - 1))) = true := by
          by_cases q : 0 < v
          · have : ¬ P (v - 1) = true := fun r => d ⟨q, r⟩
            simp [c, this]
          · simp [c, q]
        have hnm : ¬ (0 < v ∧ P (v - 1) = true ∧ P v = true) := fun q => d ⟨q.1, q.2.1⟩
        rw [if_neg hnm, if_pos hst, if_pos c, if_neg d, ih]
        by_cases e : P (v + 1) = true
        · have hge := le_ge P n (v + 1)
          have hne : ¬ m_le P n (v + 1) = v := by omega
          rw [if_pos e, if_pos (hmid.mpr ⟨c, e⟩), if_neg hne]
          rfl
        · rw [if_neg e, if_neg (fun q => e (hmid.mp q).2), if_pos rfl]
          rfl
    · have hnm : ¬ (0 < v ∧ P (v - 1) = true ∧ P v = true) := fun q => c q.2.2
      have h1 : ¬ (P v && !(decide (0 < v) && P (v - 1))) = true := by simp [c]
      have h2 : ¬ (P v && !(P (v + 1))) = true := by simp [c]
      rw [if_neg hnm, if_neg h1, if_neg h2, if_neg c, ih, if_neg (fun q => c (hmid.mp q).1)]
def pot (P : Nat → Bool) (v : Nat) : Nat := if 0 < v ∧ P (v - 1) = true then (if P v = true then 1 else 2) else 0
theorem cls_len (P : Nat → Bool) : ∀ (n v : Nat) (f : Bool), v + n = 48 → (clsL P n v f).length + 2 * v + pot P v ≤ 98 := by
  intro n
  induction n with
  | zero =>
    intro v f hv
    show 0 + 2 * v + pot P v ≤ 98
    have : pot P v ≤ 2 := by
      unfold pot
      by_cases a : 0 < v ∧ P (v - 1) = true
      · rw [if_pos a]
        by_cases b : P v = true
        · rw [if_pos b]; decide
        · rw [if_neg b]; exact Nat.le_refl _
      · rw [if_neg a]; decide
    omega
  | succ n ih =>
    intro v f hv
    have ih := fun f => ih (v + 1) f (by omega)
    have hn := num_len v
    have hp : pot P (v + 1) = if P v = true then (if P (v + 1) = true then 1 else 2) else 0 := by
      unfold pot
      rw [Nat.add_sub_cancel]
      by_cases q : P v = true
      · rw [if_pos ⟨Nat.succ_pos _, q⟩, if_pos q]
      · rw [if_neg (fun r => q r.2), if_neg q]
    rw [clsL]
    unfold stP enP
    by_cases c : P v = true
    · rw [if_pos c] at hp
      by_cases d : 0 < v ∧ P (v - 1) = true
      · have hq : pot P v = 1 := by unfold pot; rw [if_pos d, if_pos c]
        rw [if_neg (by simp [c, d.1, d.2])]
        by_cases e : P (v + 1) = true
        · rw [if_pos e] at hp
          rw [if_neg (by simp [c, e])]
          have := ih f
          omega
        · rw [if_neg e] at hp
          rw [if_pos (by simp [c, e]), List.length_cons, List.length_append]
          have := ih f
          omega
      · have hq : pot P v = 0 := by unfold pot; rw [if_neg d]
        rw [if_pos (by
          by_cases q : 0 < v
          · have : ¬ P (v - 1) = true := fun r => d ⟨q, r⟩
            simp [c, this]
          · simp [c, q]), List.length_append, List.length_append]
        have h1 : (if f = true then [(44 : Int32)] else []).length ≤ 1 := by cases f <;> decide
        have h2 : 1 ≤ pot P (v + 1) := by
          rw [hp]
          by_cases e : P (v + 1) = true
          · rw [if_pos e]; exact Nat.le_refl _
          · rw [if_neg e]; decide
        have := ih true
        omega
    · rw [if_neg c] at hp
      rw [if_neg (by simp [c]), if_neg (by simp [c])]
      have hq : pot P v ≤ 2 := by
        unfold pot
        by_cases a : 0 < v ∧ P (v - 1) = true
        · rw [if_pos a, if_neg c]; exact Nat.le_refl _
        · rw [if_neg a]; decide
      have := ih f
      omega
theorem runs_GR {st en : Int64} {P : Nat → Bool} (hs : ∀ v, v < 48 → s_hv st (nI v) = stP P v) (he : ∀ v, v < 48 → s_hv en (nI v) = enP P v) : ∀ (n v : Nat) (f : Bool) (g g' : GS), v + n = 48 → GR g g' → g'.1 + (clsL P n v f).length ≤ 1648 → GR (g_runs st en n v (bI (!f)) g) (wr g' (clsL P n v f)) := by
  intro n
  induction n with
  | zero => intro v f g g' _ h _; exact h
  | succ n ih =>
    intro v f g g' hv h hb
    rw [g_runs, hs v (by omega), he v (by omega)]
    rw [clsL] at hb ⊢
    by_cases c : stP P v = true
    · rw [if_pos c] at hb ⊢
      rw [if_pos c, wr_app, wr_app]
      rw [List.length_append, List.length_append] at hb
      have h1 : GR (if bI (!f) = 0 then g_put g 44 else g) (wr g' (if f = true then [44] else [])) := by
        cases f with
        | false => exact h
        | true =>
          have hb : g'.1 + (1 + _) ≤ 1648 := hb
          exact h.put (by omega) rfl
      have hl := wr_len (if f = true then [(44 : Int32)] else []) g'
      have h2 := h1.num (x := v) (by omega) (by rw [hl]; omega)
      have hl2 := wr_len (numL v) (wr g' (if f = true then [(44 : Int32)] else []))
      exact ih (v + 1) true _ _ (by omega) h2 (by rw [hl2, hl]; omega)
    · rw [if_neg c] at hb ⊢
      rw [if_neg c]
      by_cases d : enP P v = true
      · rw [if_pos d] at hb ⊢
        rw [if_pos d]
        rw [List.length_cons, List.length_append] at hb
        show GR _ (wr (m_put g' 45) (numL v ++ clsL P n (v + 1) f))
        rw [wr_app]
        have h1 : GR (g_put g 45) (m_put g' 45) := h.put (by omega) rfl
        have h2 := h1.num (x := v) (by omega) (by show g'.1 + 1 + _ ≤ 1648; omega)
        have hl2 := wr_len (numL v) (m_put g' 45)
        exact ih (v + 1) f _ _ (by omega) h2 (by rw [hl2]; show g'.1 + 1 + _ + _ ≤ 1648; omega)
      · rw [if_neg d] at hb ⊢
        rw [if_neg d]
        exact ih (v + 1) f _ _ (by omega) h hb
-- the bits of starts and ends
theorem bq_shl (s : Int64) (b : Nat) : bq (s <<< ((1 : Int32).toInt64 &&& 63)) b = (decide (b < 64) && !decide (b < 1) && bq s (b - 1)) := by
  unfold bq
  show (s.toBitVec <<< ((((1 : Int32).toInt64 &&& 63).toBitVec.smod 64)).toNat).getLsbD b = _
  rw [show ((((1 : Int32).toInt64 &&& 63).toBitVec.smod 64)).toNat = 1 by decide +kernel, BitVec.getLsbD_shiftLeft]
theorem bq_shr (s : Int64) (b : Nat) : bq (sh64 s 1) b = bq s (b + 1) := by
  rw [← uL_bq, ← uL_bq, show (1 : Int32) = nI 1 from rfl, uL_sh s (by decide), Nat.testBit_div_two_pow, Nat.add_comm]
theorem st_bits {s : Int64} {P : Nat → Bool} (h : ∀ b, b < 49 → bq s b = P b) : ∀ v, v < 48 → s_hv (g_starts s) (nI v) = stP P v := by
  intro v hv
  rw [hv_bq _ hv, g_starts, bq_and, bq_xor, bq_m1 v (by omega), bq_shl, h v (by omega), stP, decide_eq_true (show v < 64 by omega), Bool.true_and]
  cases v with
  | zero => simp
  | succ v =>
    rw [Nat.add_sub_cancel, h v (by omega)]
    simp
theorem en_bits {s : Int64} {P : Nat → Bool} (h : ∀ b, b < 49 → bq s b = P b) : ∀ v, v < 48 → s_hv (g_ends s) (nI v) = enP P v := by
  intro v hv
  rw [hv_bq _ hv, g_ends, bq_and, bq_xor, bq_m1 v (by omega), bq_shr, h v (by omega), h (v + 1) (by omega), enP]
  simp
theorem pt_len {v : MS} {t : Nat} (hm : mOk v) (g : GS) : g.1 < (m_pt v t g).1 ∧ (m_pt v t g).1 ≤ g.1 + 101 := by
  unfold m_pt
  have h48 : m_isL (mV v) (mL v) t 48 = false := isL_48 (hm.2.1 _) (Nat.le_refl _)
  have e := cls_ref (m_isL (mV v) (mL v) t) h48 48 0 false rfl
  rw [if_neg (fun q => absurd q.1 (by decide)), List.nil_append] at e
  have hl := cls_len (m_isL (mV v) (mL v) t) 48 0 false rfl
  rw [ptl_wr, wr_len, ← e]
  have h0 : g.1 ≤ (if m_isW (mL v) t = true then g else m_put g 33).1 ∧ (if m_isW (mL v) t = true then g else m_put g 33).1 ≤ g.1 + 1 := by
    by_cases c : m_isW (mL v) t = true
    · rw [if_pos c]; exact ⟨Nat.le_refl _, Nat.le_succ _⟩
    · rw [if_neg c]; exact ⟨Nat.le_succ _, Nat.le_refl _⟩
  show g.1 < (if m_isW (mL v) t = true then g else m_put g 33).1 + 1 + 1 + _ ∧ (if m_isW (mL v) t = true then g else m_put g 33).1 + 1 + 1 + _ ≤ _
  omega
theorem pr_GR {u : US} {v : MS} (hm : mOk v) (hN : RelN u v) {t x : Nat} {p : Int64} (hs : SlotR v t x p) {g g' : GS} (h : GR g g') {i : Nat} (hi : 0 < i ↔ 0 < g'.1) (hb : g'.1 + 103 ≤ 1648) : GR (d_pr u (nI x) p g) (m_pt v t (if 0 < i then m_put (m_put g' 59) 32 else g')) := by
  have h16 := hm.1.1
  have hx16 : x < 16 := Nat.lt_of_lt_of_le hs.2.1 h16
  have hbits := so_bits hm hN hs
  have h48 : m_isL (mV v) (mL v) t 48 = false := isL_48 (hm.2.1 _) (Nat.le_refl _)
  have hP : ∀ b, b < 49 → bq (n_so (uN u) (nI x) p) b = m_isL (mV v) (mL v) t b := fun b hb => by
    rw [hbits b (by omega)]
    by_cases c : b < 48
    · rw [decide_eq_true c, Bool.true_and]
    · rw [show b = 48 by omega, h48, Bool.and_false]
  have e := cls_ref (m_isL (mV v) (mL v) t) h48 48 0 false rfl
  rw [if_neg (fun q => absurd q.1 (by decide)), List.nil_append] at e
  have hl := cls_len (m_isL (mV v) (mL v) t) 48 0 false rfl
  have hw : s_want p = m_isW (mL v) t := by rw [want_bq, hs.2.2.1.n, m_isW]
  have hg : 0 < nI g.1 ↔ 0 < i := by
    rw [hi, h.1]
    show nI 0 < nI g'.1 ↔ _
    rw [Int32.lt_iff_toInt_lt, nI_toInt (by decide), nI_toInt (by omega)]
    omega
  have hA : GR (d_prA g) (if 0 < i then m_put (m_put g' 59) 32 else g') ∧ (if 0 < i then m_put (m_put g' 59) 32 else g').1 ≤ g'.1 + 2 := by
    unfold d_prA
    by_cases c : 0 < i
    · rw [if_pos c, if_pos (hg.mpr c)]
      exact ⟨(h.put (by omega) rfl).put (by show g'.1 + 1 < 1648; omega) rfl, Nat.le_refl _⟩
    · rw [if_neg c, if_neg (fun q => c (hg.mp q))]
      exact ⟨h, by omega⟩
  generalize (if 0 < i then m_put (m_put g' 59) 32 else g') = g1 at hA ⊢
  obtain ⟨hA, hA1⟩ := hA
  unfold d_pr m_pt g_putRuns
  have hB : GR (d_prB (d_prA g) p) (if m_isW (mL v) t = true then g1 else m_put g1 33) ∧ (if m_isW (mL v) t = true then g1 else m_put g1 33).1 ≤ g1.1 + 1 := by
    unfold d_prB
    rw [hw]
    by_cases c : m_isW (mL v) t = true
    · rw [if_pos c, if_pos c]; exact ⟨hA, Nat.le_succ _⟩
    · rw [if_neg c, if_neg c]; exact ⟨hA.put (by omega) rfl, Nat.le_refl _⟩
  generalize (if m_isW (mL v) t = true then g1 else m_put g1 33) = g2 at hB ⊢
  obtain ⟨hB, hB1⟩ := hB
  rw [hs.1, ptl_wr, ← e]
  have h3 : GR (g_put (g_put (d_prB (d_prA g) p) (i2c (97 + nI x))) 32) (m_put (m_put g2 (97 + nI x)) 32) := (hB.put (by omega) (nu4 x hx16)).put (by show g2.1 + 1 < 1648; omega) rfl
  exact runs_GR (st_bits hP) (en_bits hP) 48 0 false _ _ rfl h3 (by show g2.1 + 1 + 1 + _ ≤ 1648; omega)
theorem prl_GR {u : US} {v : MS} {k hh : Nat} (hR : Rel u v) (hk : k < mB v) (hb : BarP u v k hh) : ∀ (n x i : Nat) (g g' : GS), x + n = mN v → i ≤ mP v k → (∀ j, j < i → (mL v).1 (600 + 16 * k + j) < x) → (∀ j, i ≤ j → j < mP v k → x ≤ (mL v).1 (600 + 16 * k + j)) → GR g g' → g'.1 ≤ 103 * i → (0 < i ↔ 0 < g'.1) → GR (d_prl u (nI k) n x g) (m_prl v k (mP v k - i) i g') ∧ (m_prl v k (mP v k - i) i g').1 ≤ 103 * mP v k := by
  obtain ⟨hm, hN, hT, hRr, hC, hH, hG⟩ := hR
  have h16 := hm.1.1
  have hP16 := hb.2.2.2.2.2
  intro n
  induction n with
  | zero =>
    intro x i g g' hx hi g1 g2 h hl _
    have e : i = mP v k := by
      rcases Nat.lt_or_ge i (mP v k) with q | q
      · have a := g2 i (Nat.le_refl _) q
        have b := (hb.2.2.1 i q).2.2.1
        omega
      · omega
    rw [e, Nat.sub_self]
    exact ⟨h, by rw [← e]; exact hl⟩
  | succ n ih =>
    intro x i g g' hx hi g1 g2 h hl hz
    rw [d_prl, holds_eq hm hC hk hb (by omega)]
    by_cases c : hh.testBit x = true
    · rw [if_pos c]
      obtain ⟨j, hj, ej⟩ := hb.2.2.2.2.1 x (by omega) c
      have e : j = i := by
        rcases Nat.lt_trichotomy j i with q | q | q
        · have := g1 j q; omega
        · exact q
        · have a := g2 i (Nat.le_refl _) (by omega)
          have b := hb.2.2.2.1 i j q hj
          omega
      subst e
      have hp := pl_eq hm hC hk hb hj
      have hs := (hb.2.2.1 j hj).2
      rw [ej] at hp hs
      rw [hp, show mP v k - j = mP v k - (j + 1) + 1 by omega, m_prl]
      have h1 := pr_GR hm hN hs h hz (by omega)
      have hgl : (if 0 < j then m_put (m_put g' 59) 32 else g').1 ≤ g'.1 + 2 := by
        by_cases q : 0 < j
        · rw [if_pos q]; exact Nat.le_refl _
        · rw [if_neg q]; omega
      have hlen := pt_len (t := 600 + 16 * k + j) hm (if 0 < j then m_put (m_put g' 59) 32 else g')
      refine ih (x + 1) (j + 1) _ _ (by omega) (by omega) (fun a ha => ?_) (fun a ha hP => ?_) h1 (by omega) ⟨fun _ => by omega, fun _ => Nat.succ_pos _⟩
      · by_cases q : a = j
        · rw [q, ej]; omega
        · have := g1 a (by omega); omega
      · have := hb.2.2.2.1 j a (by omega) hP
        omega
    · rw [if_neg c]
      refine ih (x + 1) i g g' (by omega) hi (fun j hj => by have := g1 j hj; omega) (fun j hj hP => ?_) h hl hz
      have a := g2 j hj hP
      have b : (mL v).1 (600 + 16 * k + j) ≠ x := fun q => c (by rw [← q]; exact (hb.2.2.1 j hP).1)
      omega
theorem rel_print : H_print Rel := fun u v x h => by
  have hR0 := h
  obtain ⟨hm, hN, hT, hR, hC, hH, hG⟩ := h
  have h3 := hm.1.2.2.1
  unfold d_print m_print
  rw [hC.1]
  rcases hasIx_cases (n := mB v) (by omega) x with e | ⟨k, hk, ek, ec, e⟩
  · rw [if_neg (by rw [e]; decide), if_neg (by rw [e]; decide)]
    exact ⟨rfl, hR0⟩
  · obtain ⟨⟨hh, hb⟩, -⟩ := hC.2 k hk
    rw [if_pos e, if_pos e, ec, ek, hN.1]
    obtain ⟨⟨p1, p2⟩, p3⟩ := prl_GR hR0 hk hb (mN v) 0 0 (0, (uG u).2) (0, (mO v).2) (by omega) (Nat.zero_le _) (fun j hj => absurd hj (Nat.not_lt_zero _)) (fun j _ _ => Nat.zero_le _) ⟨rfl, fun i hi => absurd hi (Nat.not_lt_zero _)⟩ (Nat.zero_le _) ⟨fun q => q, fun q => q⟩
    rw [Nat.sub_zero] at p1 p2 p3
    have h6 := hb.2.2.2.2.2
    exact ⟨congrArg nI p1, hm, hN, hT, hR, hC, hH, p1, by show (m_prl v k (mP v k) 0 (0, (mO v).2)).1 ≤ 1648; omega, p2⟩
