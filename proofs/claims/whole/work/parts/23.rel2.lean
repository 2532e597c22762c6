/-! single slots change -/
theorem SlotR.mono {v v' : MS} {t x : Nat} {p : Int64} (h : SlotR v t x p) (h1 : (mL v').1 t = (mL v).1 t) (h2 : (mL v').2 t = (mL v).2 t) (h3 : mN v ≤ mN v') (h4 : mV v' x = mV v x) : SlotR v' t x p := by
  obtain ⟨a1, a2, a3, a4⟩ := h
  exact ⟨h1.trans a1, Nat.lt_of_lt_of_le a2 h3, by rw [h2]; exact a3, by rw [h2, h4]; exact a4⟩
def Same (s s' : SLt) (t : Nat) : Prop := s'.1 t = s.1 t ∧ s'.2 t = s.2 t
theorem same_set {s : SLt} {T x : Nat} {g : Nat → Bool} {t : Nat} (h : t ≠ T) : Same s (updN s.1 T x, setU s.2 T g 49) t := by
  refine ⟨by simp [updN, h], ?_⟩
  funext b
  exact setU_out _ _ _ _ h b
theorem relT_L {u : US} {v : MS} {s : SLt} (h : RelT u v) (hs : ∀ t, t < mT v → Same (mL v) s t) : RelT u (sL v s) := by
  refine ⟨h.1, fun t ht => ?_⟩
  obtain ⟨x, e, a⟩ := h.2 t ht
  exact ⟨x, e, a.mono (hs t ht).1 (hs t ht).2 (Nat.le_refl _) rfl⟩
theorem barP_L {u : US} {v v' : MS} {k h : Nat} (hb : BarP u v k h) (hk : k < 300) (hs : ∀ t, 600 ≤ t → t < 5400 → Same (mL v) (mL v') t) (hP : mP v' k = mP v k) (hN : mN v ≤ mN v') (hV : ∀ x, x < mN v → mV v' x = mV v x) : BarP u v' k h := by
  obtain ⟨a1, a2, a3, a4, a5, a6⟩ := hb
  have e : ∀ i, i < mP v k → (mL v').1 (600 + 16 * k + i) = (mL v).1 (600 + 16 * k + i) := fun i hi => (hs _ (by omega) (by omega)).1
  refine ⟨a1, a2, fun i hi => ?_, fun i j hij hj => ?_, fun x hx hb => ?_, by rw [hP]; exact a6⟩
  · rw [hP] at hi
    obtain ⟨b1, b2⟩ := a3 i hi
    rw [e i hi]
    exact ⟨b1, b2.mono (hs _ (by omega) (by omega)).1 (hs _ (by omega) (by omega)).2 hN (hV _ b2.2.1)⟩
  · rw [hP] at hj
    rw [e i (by omega), e j hj]
    exact a4 i j hij hj
  · obtain ⟨i, hi, ei⟩ := a5 x hx hb
    exact ⟨i, by rw [hP]; exact hi, by rw [e i hi]; exact ei⟩
theorem relC_L {u : US} {v : MS} {s : SLt} (hm : mOk v) (h : RelC u v) (hs : ∀ t, 600 ≤ t → t < 5400 → Same (mL v) s t) : RelC u (sL v s) := by
  refine ⟨h.1, fun k hk => ?_⟩
  have hb := hm.1.2.2.1
  obtain ⟨⟨hh, a⟩, d⟩ := h.2 k hk
  exact ⟨⟨hh, barP_L (v' := sL v s) a (by show k < 300; have : k < mB v := hk; omega) hs rfl (Nat.le_refl _) (fun _ _ => rfl)⟩, d⟩
theorem relH_L {u : US} {v : MS} {s : SLt} (h : RelH u v) (hs : ∀ i, i < mN v → Same (mL v) s (5400 + i)) : RelH u (sL v s) := fun i hi => (h i hi).mono (hs i hi).1 (hs i hi).2 (Nat.le_refl _) rfl
-- bits of a set that is given
theorem sm_b : ∀ b, b < 64 → (((nI b).toInt64 &&& 63).toBitVec.smod 64).toNat = b := by decide +kernel
theorem sbit_bq (set : Int64) {b : Nat} (hb : b < 48) : sbit set b = bq set b := by
  have e0 : bq (set >>> ((nI b).toInt64 &&& 63)) 0 = bq set b := by
    unfold bq
    rw [Int64.toBitVec_shiftRight]
    show (set.toBitVec.sshiftRight (((nI b).toInt64 &&& 63).toBitVec.smod 64).toNat).getLsbD 0 = _
    rw [sm_b b (by omega), BitVec.getLsbD_sshiftRight]
    simp [show b < 64 by omega]
  have e1 : ∀ y : Int64, (y &&& 1 = 1) ↔ bq y 0 = true := by
    intro y
    have h1 : ∀ c, c < 64 → bq 1 c = decide (c = 0) := by decide +kernel
    constructor
    · intro h
      have := congrArg (fun z => bq z 0) h
      simp only [bq_and, h1 0 (by decide)] at this
      simpa using this
    · intro h
      apply bq_ext
      intro c hc
      rw [bq_and, h1 c hc]
      by_cases e : c = 0
      · subst e; rw [h]; rfl
      · simp [e]
  unfold sbit
  cases h : bq set b with
  | true => rw [decide_eq_true ((e1 _).mpr (e0.trans h))]
  | false => rw [decide_eq_false (fun z => by have := (e1 _).mp z; rw [e0, h] at this; cases this)]
theorem po_bits {u : US} {v : MS} (hm : mOk v) (hN : RelN u v) {x : Nat} (hx : x < mN v) (set : Int64) : ∀ b, b < 64 → bq ((set &&& n_ev (uN u) (nI x)) &&& (-281474976710657)) b = (decide (b < mV v x) && bq set b) := by
  have hE := ev_PR hm hN hx
  have hk := hm.2.1 x
  intro b hb
  rw [bq_and, bq_and, bq_nnov b hb, hE b hb]
  unfold rot fullR
  by_cases h1 : b < 48
  · have hne : ¬ b = 48 := by omega
    rw [if_pos h1, decide_eq_false hne]
    by_cases h2 : b < mV v x
    · rw [decide_eq_true h2, decide_eq_true (show b + 1 ≤ mV v x by omega)]
      cases bq set b <;> rfl
    · rw [decide_eq_false h2, decide_eq_false (show ¬ b + 1 ≤ mV v x by omega)]
      cases bq set b <;> rfl
  · rw [if_neg h1, decide_eq_false (show ¬ b < mV v x by omega)]
    by_cases h2 : b = 48
    · rw [if_pos h2, decide_eq_true h2]
      cases bq set b <;> simp
    · rw [if_neg h2, decide_eq_false h2]
      cases bq set b <;> rfl
theorem po_PR {u : US} {v : MS} (hm : mOk v) (hN : RelN u v) {x : Nat} (hx : x < mN v) (set : Int64) (w : Bool) : PR (n_po (uN u) (nI x) set (bI w)) (m_mk (mV v) x set w) := by
  have hE := ev_PR hm hN hx
  have hk := hm.2.1 x
  have hB := po_bits hm hN hx set
  intro b hb
  unfold n_po
  cases w with
  | true =>
    rw [if_neg (show ¬ bI true = 0 by decide), hB b hb]
    unfold rot
    by_cases h1 : b < 48
    · rw [if_pos h1]
      show _ = (if b < mV v x then sbit set b == true else false)
      by_cases h2 : b < mV v x
      · rw [if_pos h2, decide_eq_true h2, sbit_bq set h1]; cases bq set b <;> rfl
      · rw [if_neg h2, decide_eq_false h2]; rfl
    · rw [if_neg h1, decide_eq_false (show ¬ b < mV v x by omega)]
      by_cases h2 : b = 48
      · rw [if_pos h2]; rfl
      · rw [if_neg h2]; rfl
  | false =>
    rw [if_pos (show bI false = 0 from rfl), bq_xor, hB b hb, hE b hb]
    unfold rot fullR
    by_cases h1 : b < 48
    · rw [if_pos h1, if_pos h1]
      show _ = (if b < mV v x then sbit set b == false else false)
      by_cases h2 : b < mV v x
      · rw [if_pos h2, decide_eq_true h2, decide_eq_true (show b + 1 ≤ mV v x by omega), sbit_bq set h1]; cases bq set b <;> rfl
      · rw [if_neg h2, decide_eq_false h2, decide_eq_false (show ¬ b + 1 ≤ mV v x by omega)]; rfl
    · rw [if_neg h1, if_neg h1, decide_eq_false (show ¬ b < mV v x by omega)]
      by_cases h2 : b = 48
      · rw [if_pos h2, if_pos h2]; rfl
      · rw [if_neg h2, if_neg h2]; rfl
theorem mk_val (vs : Nat → Nat) (x : Nat) (set : Int64) (w : Bool) : Val (vs x) (m_mk vs x set w) := fun b h _ => by
  show (if b < vs x then sbit set b == w else false) = false
  rw [if_neg (by omega)]
theorem Val.congr {k : Nat} {r s : Nat → Bool} (h : Val k r) (e : ∀ b, b < 49 → r b = s b) : Val k s := fun b h1 h2 => by rw [← e (b + 1) (by omega)]; exact h b h1 h2
/-- the row of a slot that was just written -/
theorem slot_set {v : MS} {T x : Nat} {g : Nat → Bool} {p : Int64} (hx : x < mN v) (hp : PR p g) (hv : Val (mV v x) g) : SlotR (sL v (updN (mL v).1 T x, setU (mL v).2 T g 49)) T x p := by
  have e : ∀ b, b < 49 → g b = setU (mL v).2 T g 49 T b := fun b hb => (setU_in _ _ _ hb).symm
  exact ⟨updN_s _ _ _, hx, hp.congr e, hv.congr e⟩
theorem t600 {n : Nat} (hn : n ≤ 600) : (600 : Int32) ≤ nI n ↔ nI n = 600 := by
  constructor
  · intro h
    have : ¬ n < 600 := fun q => absurd h (nI_ge (b := 600) q (by decide))
    have e : n = 600 := by omega
    rw [e]; rfl
  · intro h
    rw [h]
    decide
theorem addT_T {u : US} {v : MS} {t : TS} {s : SLt} {x : Nat} {p : Int64} (hm : mOk v) (h : Rel u v) (hT : mT v < 600) (ht : t = ((uT u).1 + 1, upd (uT u).2.1 (uT u).1 (nI x), vp_updL (uT u).2.2 (uT u).1 p)) (hs : ∀ t, t ≠ mT v → Same (mL v) s t) (hn : ∀ t, s.1 t < 16) (hx : SlotR (sL v s) (mT v) x p) : Rel (wT u t) (addT (sL v s)) := by
  obtain ⟨-, hN, hT0, hR, hC, hH, hG⟩ := h
  have h16 := hm.1.1
  refine ⟨⟨⟨hm.1.1, hT, hm.1.2.2⟩, hm.2.1, hn, hm.2.2.2.1, hm.2.2.2.2⟩, hN, ?_, hR, ?_, ?_, hG⟩
  · subst ht
    refine ⟨congrArg (· + 1) hT0.1, fun j hj => ?_⟩
    have hj : j < mT v + 1 := hj
    show ∃ y, upd (uT u).2.1 (uT u).1 (nI x) j = nI y ∧ SlotR (addT (sL v s)) j y (vp_updL (uT u).2.2 (uT u).1 p j)
    rw [hT0.1]
    by_cases e : j = mT v
    · subst e
      exact ⟨x, by simp [upd], by rw [show vp_updL (uT u).2.2 (mT v) p (mT v) = p by simp [vp_updL]]; exact hx⟩
    · obtain ⟨y, ey, a⟩ := hT0.2 j (by omega)
      refine ⟨y, by simp [upd, e, ey], ?_⟩
      rw [show vp_updL (uT u).2.2 (mT v) p j = (uT u).2.2 j by simp [vp_updL, e]]
      exact a.mono (hs j e).1 (hs j e).2 (Nat.le_refl _) rfl
  · exact relC_L hm hC (fun t h1 _ => hs t (by omega))
  · exact relH_L hH (fun i hi => hs _ (by omega))
theorem rel_term : H_term Rel := fun u v x set w h => by
  have hR0 := h
  obtain ⟨hm, hN, hT, hR, hC, hH, hG⟩ := h
  have hb := hm.1.2.1
  have h16 := hm.1.1
  unfold d_term m_term
  rw [hN.1]
  rcases hasIx_cases (n := mN v) (by omega) x with e | ⟨j, hj, ex, ec, e⟩
  · rw [if_neg (by rw [e]; decide), if_neg (by rw [e]; decide)]
    exact ⟨rfl, hR0⟩
  · rw [if_pos e, if_pos e, t_add, hT.1]
    by_cases h6 : nI (mT v) = 600
    · rw [if_pos ((t600 hb).mpr h6), if_pos h6]
      exact ⟨rfl, hR0⟩
    · rw [if_neg (fun q => h6 ((t600 hb).mp q)), if_neg h6]
      refine ⟨rfl, ?_⟩
      have hlt : mT v < 600 := Nat.lt_of_le_of_ne hb (fun q => h6 (by rw [q]; rfl))
      rw [ec, ex]
      exact addT_T hm hR0 hlt (by rw [hT.1]) (fun t ht => same_set ht) (make_nm hm.2.2.1 (by omega)) (slot_set hj (po_PR hm hN hj set w) (mk_val _ _ _ _))
theorem rel_both : H_both Rel := fun u v x y w h => by
  have hR0 := h
  obtain ⟨hm, hN, hT, hR, hC, hH, hG⟩ := h
  have hb := hm.1.2.1
  have h16 := hm.1.1
  rcases hasIx_cases (n := mT v) (by omega) x with e | ⟨j, hj, ex, ec, e⟩
  · have e1 : d_bothOk u x y = false := by simp [d_bothOk, hT.1, e]
    have e2 : m_bothOk v x y = false := by simp [m_bothOk, e]
    rw [d_both, m_both, if_neg (by rw [e1]; decide), if_neg (by rw [e2]; decide)]
    exact ⟨rfl, hR0⟩
  · rcases hasIx_cases (n := mT v) (by omega) y with f | ⟨k, hk, fy, fc, f⟩
    · have e1 : d_bothOk u x y = false := by simp [d_bothOk, hT.1, e, f]
      have e2 : m_bothOk v x y = false := by simp [m_bothOk, e, f]
      rw [d_both, m_both, if_neg (by rw [e1]; decide), if_neg (by rw [e2]; decide)]
      exact ⟨rfl, hR0⟩
    · obtain ⟨x1, ex1, hs1, hx1, hp1, hv1⟩ := hT.2 j hj
      obtain ⟨y1, ey1, hs2, hy1, hp2, hv2⟩ := hT.2 k hk
      have p1 : t_pl (uT u) x = (uT u).2.2 j := by rw [t_pl, if_pos (by rw [hT.1]; exact e), ec]
      have p2 : t_pl (uT u) y = (uT u).2.2 k := by rw [t_pl, if_pos (by rw [hT.1]; exact f), fc]
      have e3 : t_nm (uT u) x = nI x1 := by rw [t_nm, if_pos (by rw [hT.1]; exact e), ec, ex1]
      have e4 : t_nm (uT u) y = nI y1 := by rw [t_nm, if_pos (by rw [hT.1]; exact f), fc, ey1]
      by_cases h1 : nI x1 = nI y1
      · have hxy : x1 = y1 := (nI_eq (by omega) (by omega)).mp h1
        subst hxy
        have e1 : d_bothOk u x y = true := by simp [d_bothOk, hT.1, e, f, e3, e4]
        rw [d_both, if_pos e1, m_both, t_add, hT.1]
        by_cases h6 : nI (mT v) = 600
        · have e2 : m_bothOk v x y = false := by simp [m_bothOk, e, f, ec, fc, hs1, hs2, h6]
          rw [if_pos ((t600 hb).mpr h6), if_neg (by rw [e2]; decide)]
          exact ⟨rfl, hR0⟩
        · have e2 : m_bothOk v x y = true := by simp [m_bothOk, e, f, ec, fc, hs1, hs2, h6]
          rw [if_neg (fun q => h6 ((t600 hb).mp q)), if_pos e2]
          refine ⟨rfl, ?_⟩
          have hlt : mT v < 600 := Nat.lt_of_le_of_ne hb (fun q => h6 (by rw [q]; rfl))
          rw [ec, fc, e3]
          refine addT_T (x := x1) hm hR0 hlt (by rw [hT.1]) (fun t ht => same_set ht) (join_nm hm.2.2.1) ?_
          have hP : PR (d_bothP u x y (bI w)) (m_jn (mL v) j k w) := by
            unfold d_bothP
            rw [p1, p2]
            cases w with
            | true => rw [if_neg (show ¬ bI true = 0 by decide)]; exact hp1.or hp2
            | false => rw [if_pos (show bI false = 0 from rfl)]; exact hp1.and hp2
          have hV : Val (mV v x1) (m_jn (mL v) j k w) := fun b h1 h2 => by
            unfold m_jn
            rw [hv1 b h1 h2, hv2 b h1 h2]
            cases w <;> rfl
          have := slot_set (v := v) (T := mT v) hx1 hP hV
          rw [m_join, hs1]
          exact this
      · have e1 : d_bothOk u x y = false := by simp [d_bothOk, hT.1, e, f, e3, e4, h1]
        have e2 : m_bothOk v x y = false := by simp [m_bothOk, e, f, ec, fc, hs1, hs2, h1]
        rw [d_both, m_both, if_neg (by rw [e1]; decide), if_neg (by rw [e2]; decide)]
        exact ⟨rfl, hR0⟩
