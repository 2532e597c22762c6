/-! THE REFERENCE, its rows, bars and looks -/
def mOk (v : MS) : Prop := (mN v ≤ 16 ∧ mT v ≤ 600 ∧ mB v ≤ 300 ∧ mD v ≤ 400) ∧ (∀ j, mV v j ≤ 48) ∧ (∀ t, (mL v).1 t < 16) ∧ (∀ i, qN (mQ v) i < 16 ∧ qV (mQ v) i < 48 ∧ qO (mQ v) i < 16) ∧ ∀ k, mP v k ≤ 16
theorem nI_self {x : Int32} (h : ¬ x < 0) : x = nI x.toNatClampNeg := by
  obtain ⟨j, hj, rfl⟩ := nI_of h
  rw [nI_clamp hj]
theorem hasIx_self {n : Nat} (hn : n < 2 ^ 31) {x : Int32} (h : hasIx n x = true) : x = nI x.toNatClampNeg ∧ x.toNatClampNeg < n := by
  obtain ⟨j, hj, rfl⟩ := hasIx_t hn h
  rw [nI_clamp (by omega)]
  exact ⟨rfl, hj⟩
def thS (set : Int64) : Nat → Int64
  | 0 => 0
  | n + 1 => thS set n ||| (set &&& s_bit (nI n))
def m_ndOk (v : MS) (x ver o k : Int32) : Bool := if hasIx (mN v) x = true then (if ver < 0 then false else if nI (mV v x.toNatClampNeg) ≤ ver then false else if hasIx (mN v) o = true then (if o = x then false else if k < 0 then false else if 8 ≤ k then false else if nI (mD v) = 400 then false else true) else false) else false
def m_ndQ (v : MS) (x ver o : Int32) (set : Int64) (k : Int32) : QS := (updN (qN (mQ v)) (mD v) x.toNatClampNeg, updN (qV (mQ v)) (mD v) ver.toNatClampNeg, updN (qO (mQ v)) (mD v) o.toNatClampNeg, upd (qK (mQ v)) (mD v) k, vp_updL (qS (mQ v)) (mD v) (thS set (mV v o.toNatClampNeg)))
def m_nd (v : MS) (x ver o : Int32) (set : Int64) (k : Int32) : MS := if m_ndOk v x ver o k = true then sK (sQ v (m_ndQ v x ver o set k)) (mN v, mT v, mB v, mD v + 1) else v
def m_al (q : QS) (k ver like : Nat) : Bool := if nI (qN q k) = nI (qN q like) then (if nI (qV q k) = nI ver then (if nI (qO q k) = nI (qO q like) then (if qS q k = qS q like then (if qK q k = qK q like then true else false) else false) else false) else false) else false
def m_has (v : MS) (ver like : Nat) : Bool := anyB (fun k => m_al (mQ v) k ver like) (mD v)
def m_dm (d : DS) (q : QS) (like k : Nat) : Bool := if dN d k = nI (qN q like) then (if nI (qV q like) < nI (dF d k) then false else if nI (dL d k) < nI (qV q like) then false else if dO d k = nI (qO q like) then (if dS d k = qS q like then (if dK d k = qK q like then true else false) else false) else false) else false
def m_isD (v : MS) (like before : Nat) : Bool := anyB (m_dm (mE v) (mQ v) like) before
def m_begin (v : MS) : MS := sE (sP v (updN (mP v) (mB v) 0)) (upd (dN (mE v)) (mB v) (-1), (mE v).2)
def m_ins (base t : Nat) : Nat → SLt → SLt × Nat
  | 0, s => (s, 0)
  | i + 1, s => if nI (s.1 (base + i)) ≤ nI (s.1 t) then (s, i + 1) else m_ins base t i (m_copy s (base + (i + 1)) (base + i))
def m_apL (v : MS) (t : Nat) : SLt := m_copy (m_ins (600 + 16 * mB v) t (mP v (mB v)) (mL v)).1 (600 + 16 * mB v + (m_ins (600 + 16 * mB v) t (mP v (mB v)) (mL v)).2) t
def m_ap (v : MS) (t : Nat) : MS := if m_isFull (mV v) (mL v) t = true then v else sP (sL v (m_apL v t)) (updN (mP v) (mB v) (mP v (mB v) + 1))
def m_fst (v : MS) (like : Nat) : Nat → Nat
  | 0 => 0
  | f + 1 => if m_has v f like = true then m_fst v like f else f + 1
def m_lst (v : MS) (like : Nat) : Nat → Nat → Nat
  | 0, i => i
  | n + 1, i => if m_has v (i + 1) like = true then m_lst v like n (i + 1) else i
def m_drE (v : MS) (k f i : Nat) : MS := sE v (upd (dN (mE v)) (mB v) (nI (qN (mQ v) k)), updN (dF (mE v)) (mB v) f, updN (dL (mE v)) (mB v) i, upd (dO (mE v)) (mB v) (nI (qO (mQ v) k)), upd (dK (mE v)) (mB v) (qK (mQ v) k), vp_updL (dS (mE v)) (mB v) (qS (mQ v) k))
def m_mkW (v : MS) (x : Nat) (set : Int64) (w : Bool) : MS := sL v (m_make (mV v) (mL v) 5416 x set w)
def m_runS (f i : Nat) : Int64 := s_bit (nI i + 1) - s_bit (nI f)
def m_dr1 (v : MS) (k : Nat) : MS := m_drE (m_begin v) k (m_fst v k (qV (mQ v) k)) (m_lst v k (48 - qV (mQ v) k) (qV (mQ v) k))
def m_dr2 (v : MS) (k : Nat) : MS := m_ap (m_mkW (m_dr1 v k) (qN (mQ v) k) (m_runS (m_fst v k (qV (mQ v) k)) (m_lst v k (48 - qV (mQ v) k) (qV (mQ v) k))) true) 5416
def m_dr3 (v : MS) (k : Nat) : MS := m_ap (m_mkW (m_dr2 v k) (qO (mQ v) k) (qS (mQ v) k) false) 5416
def addBar (v : MS) : MS := sK v (mN v, mT v, mB v + 1, mD v)
def m_dr (v : MS) (k : Nat) : MS := addBar (m_dr3 v k)
def setB (v : MS) (b : Nat) : MS := sK v (mN v, mT v, b, mD v)
def m_dlp (x ver : Int32) : Nat → Nat → MS → Bool × MS
  | 0, _, v => (true, v)
  | n + 1, k, v => if nI (qN (mQ v) k) = x then (if nI (qV (mQ v) k) = ver then (if m_isD v k (mB v) = true then m_dlp x ver n (k + 1) v else if nI (mB v) = 300 then (false, v) else m_dlp x ver n (k + 1) (m_dr v k)) else m_dlp x ver n (k + 1) v) else m_dlp x ver n (k + 1) v
def m_dvOk (v : MS) (x ver : Int32) : Bool := if hasIx (mN v) x = true then (if ver < 0 then false else if ver < nI (mV v x.toNatClampNeg) then true else false) else false
def m_derive (v : MS) (x ver : Int32) : Int32 × MS := if m_dvOk v x ver = true then (if (m_dlp x ver (mD v) 0 v).1 = true then (nI (mB (m_dlp x ver (mD v) 0 v).2) - nI (mB v), (m_dlp x ver (mD v) 0 v).2) else (-1, setB (m_dlp x ver (mD v) 0 v).2 (mB v))) else (-1, v)
def m_barV (v : MS) (x : Nat) (set : Int64) (w : Bool) : MS := addBar (m_ap (m_mkW (m_begin v) x set w) 5416)
def m_bar (v : MS) (x : Int32) (set : Int64) (dm : Bool) : Int32 × MS := if hasIx (mN v) x = true then (if nI (mB v) = 300 then (-1, v) else (nI (mB v), m_barV v x.toNatClampNeg set (!dm))) else (-1, v)
/-- the last part of bar k that has name x: its slot, or none -/
def m_pol (v : MS) (k : Nat) (x : Int32) : Nat → Option Nat
  | 0 => none
  | i + 1 => if nI ((mL v).1 (600 + 16 * k + i)) = x then some (600 + 16 * k + i) else m_pol v k x i
def m_po (v : MS) (k : Nat) (x : Int32) : Option Nat := m_pol v k x (mP v k)
-- looks
def m_sto (v : MS) (t : Nat) : Int32 := m_rel (mL v) (5400 + (mL v).1 t) t
def m_ct (v : MS) (k : Nat) (s : Int32) : Nat := cntB (fun i => decide (m_sto v (600 + 16 * k + i) = s)) (mP v k)
def m_look (v : MS) (k : Nat) : Int32 := if 0 < m_ct v k (-1) then -1 else if m_ct v k 0 = 0 then 1 else if m_ct v k 0 = 1 then 2 else 0
def m_opl (v : MS) (k : Nat) : Nat → Option Nat
  | 0 => none
  | i + 1 => if m_sto v (600 + 16 * k + i) = 0 then some i else m_opl v k i
def m_op (v : MS) (k : Nat) : Option Nat := m_opl v k (mP v k)
def m_fk (v : MS) : Int32 := fI (fnd (fun k => decide (m_look v k = 1)) (mB v) 0)
theorem updN_s (f : Nat → Nat) (k x : Nat) : updN f k x k = x := by simp [updN]
theorem ix5400m (n : Nat) : 5400 + nI (n + 1) - 1 = nI (5400 + n) := by
  rw [ix5400, show 5400 + (n + 1) = (5400 + n) + 1 by omega, nI_pred]
theorem updN_lt {f : Nat → Nat} {B : Nat} (h : ∀ j, f j < B) {k x : Nat} (hx : x < B) : ∀ j, updN f k x j < B := fun j => by
  unfold updN
  by_cases e : j = k
  · simp [e, hx]
  · simp [e, h j]
theorem updN_le {f : Nat → Nat} {B : Nat} (h : ∀ j, f j ≤ B) {k x : Nat} (hx : x ≤ B) : ∀ j, updN f k x j ≤ B := fun j => by
  unfold updN
  by_cases e : j = k
  · simp [e, hx]
  · simp [e, h j]
theorem make_nm {vs : Nat → Nat} {s : SLt} {t x : Nat} {set : Int64} {w : Bool} (h : ∀ t, s.1 t < 16) (hx : x < 16) : ∀ t', (m_make vs s t x set w).1 t' < 16 := updN_lt h hx
theorem copy_nm {s : SLt} {t y : Nat} (h : ∀ t, s.1 t < 16) : ∀ t', (m_copy s t y).1 t' < 16 := updN_lt h (h y)
theorem join_nm {s : SLt} {t x y : Nat} {w : Bool} (h : ∀ t, s.1 t < 16) : ∀ t', (m_join s t x y w).1 t' < 16 := updN_lt h (h x)
theorem ins_nm (base t : Nat) : ∀ (i : Nat) (s : SLt), (∀ t, s.1 t < 16) → ∀ t', (m_ins base t i s).1.1 t' < 16 := by
  intro i
  induction i with
  | zero => intro s h; exact h
  | succ i ih =>
    intro s h
    rw [m_ins]
    by_cases c : nI (s.1 (base + i)) ≤ nI (s.1 t)
    · rw [if_pos c]; exact h
    · rw [if_neg c]; exact ih _ (copy_nm h)
theorem ins_le (base t : Nat) : ∀ (i : Nat) (s : SLt), (m_ins base t i s).2 ≤ i := by
  intro i
  induction i with
  | zero => intro s; exact Nat.le_refl _
  | succ i ih =>
    intro s
    rw [m_ins]
    by_cases c : nI (s.1 (base + i)) ≤ nI (s.1 t)
    · rw [if_pos c]; exact Nat.le_refl _
    · rw [if_neg c]; exact Nat.le_succ_of_le (ih _)
-- keeping the bounds
theorem mok_L {v : MS} {s : SLt} (h : mOk v) (hs : ∀ t, s.1 t < 16) : mOk (sL v s) := ⟨h.1, h.2.1, hs, h.2.2.2.1, h.2.2.2.2⟩
theorem mok_begin {v : MS} (h : mOk v) : mOk (m_begin v) := ⟨h.1, h.2.1, h.2.2.1, h.2.2.2.1, updN_le h.2.2.2.2 (Nat.zero_le _)⟩
theorem mok_E {v : MS} {d : DS} (h : mOk v) : mOk (sE v d) := h
theorem mok_mkW {v : MS} {x : Nat} {set : Int64} {w : Bool} (h : mOk v) (hx : x < 16) : mOk (m_mkW v x set w) := mok_L h (make_nm h.2.2.1 hx)
theorem mok_ap {v : MS} {t : Nat} (h : mOk v) (hp : mP v (mB v) < 16) : mOk (m_ap v t) := by
  unfold m_ap
  by_cases c : m_isFull (mV v) (mL v) t = true
  · rw [if_pos c]; exact h
  · rw [if_neg c]
    exact ⟨h.1, h.2.1, copy_nm (ins_nm _ _ _ _ h.2.2.1), h.2.2.2.1, updN_le h.2.2.2.2 (by omega)⟩
theorem ap_B (v : MS) (t : Nat) : mB (m_ap v t) = mB v := by
  unfold m_ap
  by_cases c : m_isFull (mV v) (mL v) t = true
  · rw [if_pos c]
  · rw [if_neg c]
theorem ap_K (v : MS) (t : Nat) : mK (m_ap v t) = mK v := by
  unfold m_ap
  by_cases c : m_isFull (mV v) (mL v) t = true
  · rw [if_pos c]
  · rw [if_neg c]
theorem ap_V (v : MS) (t : Nat) : mV (m_ap v t) = mV v := by
  unfold m_ap
  by_cases c : m_isFull (mV v) (mL v) t = true
  · rw [if_pos c]
  · rw [if_neg c]
theorem ap_Q (v : MS) (t : Nat) : mQ (m_ap v t) = mQ v := by
  unfold m_ap
  by_cases c : m_isFull (mV v) (mL v) t = true
  · rw [if_pos c]
  · rw [if_neg c]
theorem ap_P (v : MS) (t : Nat) : mP (m_ap v t) (mB v) ≤ mP v (mB v) + 1 := by
  unfold m_ap
  by_cases c : m_isFull (mV v) (mL v) t = true
  · rw [if_pos c]; exact Nat.le_succ _
  · rw [if_neg c]
    show updN (mP v) (mB v) (mP v (mB v) + 1) (mB v) ≤ _
    rw [updN_s]
    exact Nat.le_refl _
theorem mok_addBar {v : MS} (h : mOk v) (hb : mB v < 300) : mOk (addBar v) := ⟨⟨h.1.1, h.1.2.1, hb, h.1.2.2.2⟩, h.2⟩
theorem mok_setB {v : MS} (h : mOk v) {b : Nat} (hb : b ≤ 300) : mOk (setB v b) := ⟨⟨h.1.1, h.1.2.1, hb, h.1.2.2.2⟩, h.2⟩
def m_put (g : GS) (x : Int32) : GS := (g.1 + 1, upd g.2 g.1 x)
def m_num (g : GS) (x : Nat) : GS := if nI x ≤ 9 then m_put g (48 + (nI x - nI x / 10 * 10)) else m_put (m_put g (48 + nI x / 10)) (48 + (nI x - nI x / 10 * 10))
def addT (v : MS) : MS := sK v (mN v, mT v + 1, mB v, mD v)
def m_verOk (v : MS) (x : Int32) : Bool := if nI (mN v) = 16 then false else if x < 0 then false else if x ≤ 48 then true else false
def m_verV (v : MS) (k : Nat) : MS := sK (sL (sV v (updN (mV v) (mN v) k)) (updN (mL v).1 (5400 + mN v) (mN v), (mL v).2)) (mN v + 1, mT v, mB v, mD v)
def m_ver (v : MS) (x : Int32) : Int32 × MS := if m_verOk v x = true then (nI (mN v), sL (m_verV v x.toNatClampNeg) (m_full (mV (m_verV v x.toNatClampNeg)) (mL (m_verV v x.toNatClampNeg)) (5400 + mN v))) else (-1, v)
def m_term (v : MS) (x : Int32) (set : Int64) (w : Bool) : Int32 × MS := if hasIx (mN v) x = true then (if nI (mT v) = 600 then (-1, v) else (nI (mT v), addT (sL v (m_make (mV v) (mL v) (mT v) x.toNatClampNeg set w)))) else (-1, v)
def m_bothOk (v : MS) (x y : Int32) : Bool := if hasIx (mT v) x = true then (if hasIx (mT v) y = true then (if nI ((mL v).1 x.toNatClampNeg) = nI ((mL v).1 y.toNatClampNeg) then (if nI (mT v) = 600 then false else true) else false) else false) else false
def m_both (v : MS) (x y : Int32) (w : Bool) : Int32 × MS := if m_bothOk v x y = true then (nI (mT v), addT (sL v (m_join (mL v) (mT v) x.toNatClampNeg y.toNatClampNeg w))) else (-1, v)
def m_relate (v : MS) (x y : Int32) : Int32 := if hasIx (mT v) x = true then (if hasIx (mT v) y = true then (if m_rel (mL v) x.toNatClampNeg x.toNatClampNeg = -1 then -1 else if nI ((mL v).1 x.toNatClampNeg) = nI ((mL v).1 y.toNatClampNeg) then m_rel (mL v) x.toNatClampNeg y.toNatClampNeg else 0) else -2) else -2
def m_aboutP (v : MS) (x w : Int32) : Int32 := if hasIx (mT v) x = true then m_about (mV v) (mL v) x.toNatClampNeg w else -1
def m_setP (v : MS) (x : Int32) : Int64 := if hasIx (mT v) x = true then m_setOf (mV v) (mL v) x.toNatClampNeg else 0
theorem any_t {P : Nat → Bool} : ∀ {n : Nat}, anyB P n = true → ∃ k, k < n ∧ P k = true := by
  intro n
  induction n with
  | zero => intro h; simp [anyB] at h
  | succ n ih =>
    intro h
    rw [anyB, Bool.or_eq_true] at h
    rcases h with h | h
    · obtain ⟨k, hk, e⟩ := ih h
      exact ⟨k, by omega, e⟩
    · exact ⟨n, by omega, h⟩
theorem al_ver {q : QS} {k ver y : Nat} (h : m_al q k ver y = true) : nI (qV q k) = nI ver := by
  unfold m_al at h
  by_cases h1 : nI (qN q k) = nI (qN q y)
  · rw [if_pos h1] at h
    by_cases h2 : nI (qV q k) = nI ver
    · exact h2
    · rw [if_neg h2] at h
      exact absurd h (by decide)
  · rw [if_neg h1] at h
    exact absurd h (by decide)
theorem has_lt {v : MS} {ver y : Nat} (hm : mOk v) (hv : ver < 2 ^ 31) (h : m_has v ver y = true) : ver < 48 := by
  obtain ⟨k, -, e⟩ := any_t h
  have h1 := (hm.2.2.2.1 k).2.1
  have h2 := (nI_eq (by omega) hv).mp (al_ver e)
  omega
theorem fst_le (v : MS) (y : Nat) : ∀ f, m_fst v y f ≤ f := by
  intro f
  induction f with
  | zero => exact Nat.le_refl _
  | succ f ih =>
    rw [m_fst]
    by_cases c : m_has v f y = true
    · rw [if_pos c]; omega
    · rw [if_neg c]; exact Nat.le_refl _
theorem dr1_ok {v : MS} {k : Nat} (h : mOk v) : mOk (m_dr1 v k) := mok_begin h
theorem dr1_P (v : MS) (k : Nat) : mP (m_dr1 v k) (mB v) = 0 := updN_s _ _ _
theorem dr2_ok {v : MS} {k : Nat} (h : mOk v) : mOk (m_dr2 v k) := mok_ap (mok_mkW (dr1_ok h) (h.2.2.2.1 k).1) (by show mP (m_dr1 v k) (mB v) < 16; rw [dr1_P]; decide)
theorem dr2_P (v : MS) (k : Nat) : mP (m_dr2 v k) (mB v) ≤ 1 := by
  have h := ap_P (m_mkW (m_dr1 v k) (qN (mQ v) k) (m_runS (m_fst v k (qV (mQ v) k)) (m_lst v k (48 - qV (mQ v) k) (qV (mQ v) k))) true) 5416
  have e : mP (m_mkW (m_dr1 v k) (qN (mQ v) k) (m_runS (m_fst v k (qV (mQ v) k)) (m_lst v k (48 - qV (mQ v) k) (qV (mQ v) k))) true) (mB v) = 0 := dr1_P v k
  exact Nat.le_trans h (by show mP (m_mkW (m_dr1 v k) _ _ _) (mB v) + 1 ≤ 1; rw [e]; exact Nat.le_refl 1)
theorem dr2_B (v : MS) (k : Nat) : mB (m_dr2 v k) = mB v := ap_B _ _
theorem dr2_V (v : MS) (k : Nat) : mV (m_dr2 v k) = mV v := ap_V _ _
theorem dr2_Q (v : MS) (k : Nat) : mQ (m_dr2 v k) = mQ v := ap_Q _ _
theorem dr3_ok {v : MS} {k : Nat} (h : mOk v) : mOk (m_dr3 v k) := mok_ap (mok_mkW (dr2_ok h) (h.2.2.2.1 k).2.2) (by
  have := dr2_P v k
  show mP (m_dr2 v k) (mB (m_dr2 v k)) < 16
  rw [dr2_B]
  omega)
theorem dr3_K (v : MS) (k : Nat) : mK (m_dr3 v k) = mK v := (ap_K _ _).trans (ap_K _ _)
theorem dr_K (v : MS) (k : Nat) : mK (m_dr v k) = (mN v, mT v, mB v + 1, mD v) := by
  have h := dr3_K v k
  show (mN (m_dr3 v k), mT (m_dr3 v k), mB (m_dr3 v k) + 1, mD (m_dr3 v k)) = _
  rw [show mN (m_dr3 v k) = (mK (m_dr3 v k)).1 from rfl, show mT (m_dr3 v k) = (mK (m_dr3 v k)).2.1 from rfl, show mB (m_dr3 v k) = (mK (m_dr3 v k)).2.2.1 from rfl, show mD (m_dr3 v k) = (mK (m_dr3 v k)).2.2.2 from rfl, h]
theorem dr_ok {v : MS} {k : Nat} (h : mOk v) (hb : mB v < 300) : mOk (m_dr v k) := mok_addBar (dr3_ok h) (by
  have e := dr3_K v k
  show (mK (m_dr3 v k)).2.2.1 < 300
  rw [e]
  exact hb)
def m_lnOk (v : MS) (x y z : Int32) : Bool := if hasIx (mB v) x = true then (if hasIx (mB v) y = true then (if nI (mB v) = 300 then false else if fI (m_po v x.toNatClampNeg z) = -1 then false else if fI (m_po v y.toNatClampNeg z) = -1 then false else true) else false) else false
def m_ln1 (v : MS) (p q : Nat) (w : Bool) : MS := m_ap (sL v (m_join (mL v) 5416 p q w)) 5416
def m_lns (v : MS) (z : Int32) (i : Nat) : Option Nat → Option Nat → MS
  | none, none => v
  | some p, none => m_ln1 v p p (decide (nI i = z))
  | none, some q => m_ln1 v q q (decide (nI i = z))
  | some p, some q => m_ln1 v p q (decide (nI i = z))
def m_lnl (x y : Nat) (z : Int32) : Nat → Nat → MS → MS
  | 0, _, v => v
  | n + 1, i, v => m_lnl x y z n (i + 1) (m_lns v z i (m_po v x (nI i)) (m_po v y (nI i)))
def m_learn (v : MS) (x y z : Int32) : Int32 × MS := if m_lnOk v x y z = true then (nI (mB v), addBar (m_lnl x.toNatClampNeg y.toNatClampNeg z (mN v) 0 (m_begin v))) else (-1, v)
def m_force (s : SLt) (t : Nat) : SLt := (s.1, setU s.2 (5400 + s.1 t) (fun b => s.2 (5400 + s.1 t) b && !(s.2 t b)) 49)
def m_spi (v : MS) : Nat → Nat → Bool → SLt → Option Int32 × Bool × SLt
  | 0, _, f, s => (none, f, s)
  | n + 1, k, f, s => if m_look (sL v s) k = 1 then (some (m_fk (sL v s)), f, s) else if m_look (sL v s) k = 2 then m_spi v n (k + 1) true (m_force s (600 + 16 * k + (m_op (sL v s) k).getD 0)) else m_spi v n (k + 1) f s
def m_spo (v : MS) : Nat → Bool → SLt → Option (Int32 × SLt)
  | 0, _, _ => none
  | n + 1, f, s => if f = false then some (-1, s) else match m_spi v (mB v) 0 false s with
    | (some r, _, s') => some (r, s')
    | (none, f', s') => m_spo v n f' s'
theorem cnt_le (P : Nat → Bool) : ∀ n, cntB P n ≤ n := by
  intro n
  induction n with
  | zero => exact Nat.le_refl _
  | succ n ih =>
    rw [cntB]
    by_cases h : P n = true
    · rw [if_pos h]; omega
    · rw [if_neg h]; omega
theorem cnt_op {v : MS} {k : Nat} : ∀ n, 0 < cntB (fun i => decide (m_sto v (600 + 16 * k + i) = 0)) n → ∃ i, m_opl v k n = some i ∧ i < n := by
  intro n
  induction n with
  | zero => intro h; simp [cntB] at h
  | succ n ih =>
    intro h
    rw [m_opl]
    by_cases c : m_sto v (600 + 16 * k + n) = 0
    · rw [if_pos c]; exact ⟨n, rfl, by omega⟩
    · rw [if_neg c]
      rw [cntB, if_neg (by simp [c])] at h
      obtain ⟨i, e, hi⟩ := ih (by omega)
      exact ⟨i, e, by omega⟩
theorem look_op {v : MS} {k : Nat} (h : m_look v k = 2) : ∃ i, m_op v k = some i ∧ i < mP v k := by
  unfold m_look at h
  by_cases h1 : 0 < m_ct v k (-1)
  · rw [if_pos h1] at h
    exact absurd h (by decide)
  · rw [if_neg h1] at h
    by_cases h2 : m_ct v k 0 = 0
    · rw [if_pos h2] at h
      exact absurd h (by decide)
    · exact cnt_op _ (Nat.pos_of_ne_zero h2)
theorem pol_lt {v : MS} {k : Nat} {x : Int32} : ∀ n i, m_pol v k x n = some i → i < 600 + 16 * k + n := by
  intro n
  induction n with
  | zero => intro i h; simp [m_pol] at h
  | succ n ih =>
    intro i h
    rw [m_pol] at h
    by_cases c : nI ((mL v).1 (600 + 16 * k + n)) = x
    · rw [if_pos c] at h
      have := Option.some.inj h
      omega
    · rw [if_neg c] at h
      have := ih i h
      omega
theorem po_lt {v : MS} {k : Nat} {x : Int32} {i : Nat} (hm : mOk v) (hk : k < 300) (h : m_po v k x = some i) : i < 5420 := by
  have h1 := pol_lt _ _ h
  have h2 := hm.2.2.2.2 k
  omega
theorem zW_lv {p : Program} {l : Launch} {e : Env} {R : Room} {s : State} {m : MethodId} {args : Array Value} {below : List Frame} {meth : Method} {c : Code} {D : va_G} {cl : List vw_C} {A : Nat → Prop} {nL cells slots : Nat} {Q : State → Prop} {ws : va_W} {pc : Nat} {lv lv' : List (Nat × Value)} {st : List Value} (hw : lv = lv') (kk : zW p l e R s m args below meth c D cl A nL cells slots Q ws pc lv' st) : zW p l e R s m args below meth c D cl A nL cells slots Q ws pc lv st := hw ▸ kk
theorem begin_P (v : MS) : mP (m_begin v) (mB v) = 0 := updN_s _ _ _
theorem ln1_ok {v : MS} {p q : Nat} {w : Bool} (h : mOk v) (hp : mP v (mB v) < 16) : mOk (m_ln1 v p q w) := mok_ap (mok_L h (join_nm h.2.2.1)) hp
theorem ln1_K (v : MS) (p q : Nat) (w : Bool) : mK (m_ln1 v p q w) = mK v := ap_K _ _
theorem ln1_P (v : MS) (p q : Nat) (w : Bool) : mP (m_ln1 v p q w) (mB v) ≤ mP v (mB v) + 1 := ap_P (sL v (m_join (mL v) 5416 p q w)) 5416
theorem lns_K (v : MS) (z : Int32) (i : Nat) (p q : Option Nat) : mK (m_lns v z i p q) = mK v := by
  cases p <;> cases q <;> first | rfl | exact ln1_K _ _ _ _
theorem lns_ok {v : MS} (z : Int32) (i : Nat) (p q : Option Nat) (h : mOk v) (hp : mP v (mB v) < 16) : mOk (m_lns v z i p q) := by
  cases p <;> cases q <;> first | exact h | exact ln1_ok h hp
theorem lns_P (v : MS) (z : Int32) (i : Nat) (p q : Option Nat) : mP (m_lns v z i p q) (mB v) ≤ mP v (mB v) + 1 := by
  cases p <;> cases q <;> first | exact Nat.le_succ _ | exact ln1_P _ _ _ _
theorem fI_some {n : Nat} (h : n < 2 ^ 31) : ¬ fI (some n) = -1 := nI_ne_m1 h
theorem fI_none : fI none = -1 := rfl
-- the public ones
def m_terms (v : MS) (k : Int32) : Int32 := if hasIx (mB v) k = true then nI (mP v k.toNatClampNeg) else -1
def m_isPt (v : MS) (k i : Int32) : Bool := if hasIx (mB v) k = true then (if i < 0 then false else if nI (mP v k.toNatClampNeg) ≤ i then false else true) else false
def m_slot (k i : Int32) : Nat := 600 + 16 * k.toNatClampNeg + i.toNatClampNeg
def m_part (v : MS) (k i w : Int32) : Int32 := if m_isPt v k i = true then m_about (mV v) (mL v) (m_slot k i) w else -1
def m_partSet (v : MS) (k i : Int32) : Int64 := if m_isPt v k i = true then m_setOf (mV v) (mL v) (m_slot k i) else 0
def m_choose (v : MS) (x : Int32) : Bool × SLt := if hasIx (mT v) x = true then (true, m_join (mL v) (5400 + (mL v).1 x.toNatClampNeg) (5400 + (mL v).1 x.toNatClampNeg) x.toNatClampNeg false) else (false, mL v)
def m_fgl (vs : Nat → Nat) : Nat → Nat → SLt → SLt
  | 0, _, s => s
  | n + 1, i, s => m_fgl vs n (i + 1) (m_full vs s (5400 + i))
def m_state (v : MS) (k : Int32) : Int32 := if hasIx (mB v) k = true then m_look v k.toNatClampNeg else -2
def m_forced (v : MS) (k : Int32) : Int32 := if hasIx (mB v) k = true then (if m_look v k.toNatClampNeg = 2 then fI (m_op v k.toNatClampNeg) else -1) else -1
def m_chosen (v : MS) (x w : Int32) : Int32 := if hasIx (mN v) x = true then m_about (mV v) (mL v) (5400 + x.toNatClampNeg) w else -1
def m_chosenSet (v : MS) (x : Int32) : Int64 := if hasIx (mN v) x = true then m_setOf (mV v) (mL v) (5400 + x.toNatClampNeg) else 0
def m_at (v : MS) (i : Int32) : Int32 := if i < 0 then -1 else if i < nI (mO v).1 then (mO v).2 i.toNatClampNeg else -1
theorem isPt_t {v : MS} {k i : Int32} (hm : mOk v) (h : m_isPt v k i = true) : k = nI k.toNatClampNeg ∧ k.toNatClampNeg < 300 ∧ i = nI i.toNatClampNeg ∧ i.toNatClampNeg < mP v k.toNatClampNeg := by
  unfold m_isPt at h
  by_cases h1 : hasIx (mB v) k = true
  · rw [if_pos h1] at h
    have hb := hm.1.2.2.1
    obtain ⟨e, hk⟩ := hasIx_self (by omega) h1
    by_cases h2 : i < 0
    · rw [if_pos h2] at h
      exact absurd h (by decide)
    · rw [if_neg h2] at h
      by_cases h3 : nI (mP v k.toNatClampNeg) ≤ i
      · rw [if_pos h3] at h
        exact absurd h (by decide)
      · have hp := hm.2.2.2.2 k.toNatClampNeg
        have ei := nI_self h2
        refine ⟨e, by omega, ei, ?_⟩
        rcases Nat.lt_or_ge i.toNatClampNeg (mP v k.toNatClampNeg) with q | q
        · exact q
        · refine absurd ?_ h3
          rw [ei]
          rw [Int32.le_iff_toInt_le, nI_toInt (by omega)]
          obtain ⟨j, hj, e2⟩ := nI_of h2
          rw [e2, nI_clamp hj] at q ⊢
          rw [nI_toInt hj]
          omega
  · rw [if_neg h1] at h
    exact absurd h (by decide)
theorem slot_lt {v : MS} {k i : Int32} (hm : mOk v) (h : m_isPt v k i = true) : m_slot k i < 5420 := by
  obtain ⟨-, h1, -, h2⟩ := isPt_t hm h
  have := hm.2.2.2.2 k.toNatClampNeg
  unfold m_slot
  omega
theorem slot_e {v : MS} {k i : Int32} (hm : mOk v) (h : m_isPt v k i = true) : 600 + 16 * k + i = nI (m_slot k i) := by
  obtain ⟨e1, -, e2, -⟩ := isPt_t hm h
  rw [m_slot, ← ix600, ← e1, ← e2]
theorem full_nm {vs : Nat → Nat} {s : SLt} {t : Nat} (h : ∀ t, s.1 t < 16) : ∀ t', (m_full vs s t).1 t' < 16 := h
-- what is printed
def m_le (P : Nat → Bool) : Nat → Nat → Nat
  | 0, i => i
  | n + 1, i => if P (i + 1) = true then m_le P n (i + 1) else i
def m_ptS (P : Nat → Bool) (g : GS) (some' : Bool) (i : Nat) : GS := if m_le P (48 - i) i = i then m_num (if some' = true then m_put g 44 else g) i else m_num (m_put (m_num (if some' = true then m_put g 44 else g) i) 45) (m_le P (48 - i) i)
def m_ptl (P : Nat → Bool) : Nat → Nat → Bool → GS → GS
  | 0, _, _, g => g
  | n + 1, i, f, g => if P i = true then (if 0 < i ∧ P (i - 1) = true then m_ptl P n (i + 1) f g else m_ptl P n (i + 1) true (m_ptS P g f i)) else m_ptl P n (i + 1) f g
def m_pt (v : MS) (t : Nat) (g : GS) : GS := m_ptl (m_isL (mV v) (mL v) t) 48 0 false (m_put (m_put (if m_isW (mL v) t = true then g else m_put g 33) (97 + nI ((mL v).1 t))) 32)
def m_prl (v : MS) (k : Nat) : Nat → Nat → GS → GS
  | 0, _, g => g
  | n + 1, i, g => m_prl v k n (i + 1) (m_pt v (600 + 16 * k + i) (if 0 < i then m_put (m_put g 59) 32 else g))
def m_print (v : MS) (k : Int32) : Int32 × GS := if hasIx (mB v) k = true then (nI (m_prl v k.toNatClampNeg (mP v k.toNatClampNeg) 0 (0, (mO v).2)).1, m_prl v k.toNatClampNeg (mP v k.toNatClampNeg) 0 (0, (mO v).2)) else (-1, mO v)
theorem le48 {x : Int32} (h0 : ¬ x < 0) (h : x ≤ 48) : x.toNatClampNeg ≤ 48 := by
  obtain ⟨j, hj, e⟩ := nI_of2 (M := 48) (n := 48) (by decide) h0 h
  rw [e, nI_clamp (by omega)]
  exact hj
theorem m_atIn {i : Int32} {n : Nat} (h0 : ¬ i < 0) (h : i < nI n) (hn : n ≤ 8000) : vp_in i 8000 := by
  rcases pk_ix i (n := n) (by omega) with g | g | ⟨j, hj, rfl⟩
  · exact absurd g h0
  · exact absurd g (i_not_le_of_lt h)
  · exact vp_in_nI (by omega) (by decide)
theorem m_num_le (g : GS) (x : Nat) : (m_num g x).1 ≤ g.1 + 2 := by
  unfold m_num
  by_cases h : nI x ≤ 9
  · rw [if_pos h]; exact Nat.le_succ _
  · rw [if_neg h]; exact Nat.le_refl _
theorem isL_48 {v : MS} {t j : Nat} (hv : mV v ((mL v).1 t) ≤ 48) (h : 48 ≤ j) : m_isL (mV v) (mL v) t j = false := by
  unfold m_isL
  rw [if_neg (by omega)]
theorem m_ptS_le (P : Nat → Bool) (g : GS) (f : Bool) (i : Nat) : (m_ptS P g f i).1 ≤ g.1 + 6 := by
  have h0 : (if f = true then m_put g 44 else g).1 ≤ g.1 + 1 := by
    by_cases h : f = true
    · rw [if_pos h]; exact Nat.le_refl _
    · rw [if_neg h]; exact Nat.le_succ _
  have h1 := m_num_le (if f = true then m_put g 44 else g) i
  unfold m_ptS
  by_cases h : m_le P (48 - i) i = i
  · rw [if_pos h]; omega
  · rw [if_neg h]
    have h2 := m_num_le (m_put (m_num (if f = true then m_put g 44 else g) i) 45) (m_le P (48 - i) i)
    have h3 : (m_put (m_num (if f = true then m_put g 44 else g) i) 45).1 = (m_num (if f = true then m_put g 44 else g) i).1 + 1 := rfl
    omega
theorem m_ptl_le (P : Nat → Bool) : ∀ (n i : Nat) (f : Bool) (g : GS), (m_ptl P n i f g).1 ≤ g.1 + 6 * n := by
  intro n
  induction n with
  | zero => intro i f g; exact Nat.le_refl _
  | succ n ih =>
    intro i f g
    rw [m_ptl]
    by_cases h : P i = true
    · rw [if_pos h]
      by_cases h2 : 0 < i ∧ P (i - 1) = true
      · rw [if_pos h2]; have := ih (i + 1) f g; omega
      · rw [if_neg h2]; have := ih (i + 1) true (m_ptS P g f i); have := m_ptS_le P g f i; omega
    · rw [if_neg h]; have := ih (i + 1) f g; omega
theorem m_pt_le (v : MS) (t : Nat) (g : GS) : (m_pt v t g).1 ≤ g.1 + 291 := by
  unfold m_pt
  have h1 := m_ptl_le (m_isL (mV v) (mL v) t) 48 0 false (m_put (m_put (if m_isW (mL v) t = true then g else m_put g 33) (97 + nI ((mL v).1 t))) 32)
  have h0 : (if m_isW (mL v) t = true then g else m_put g 33).1 ≤ g.1 + 1 := by
    by_cases h : m_isW (mL v) t = true
    · rw [if_pos h]; exact Nat.le_succ _
    · rw [if_neg h]; exact Nat.le_refl _
  have h2 : (m_put (m_put (if m_isW (mL v) t = true then g else m_put g 33) (97 + nI ((mL v).1 t))) 32).1 = (if m_isW (mL v) t = true then g else m_put g 33).1 + 2 := rfl
  omega
