/-! THE REFERENCE: what it holds, and what its methods answer and do. A slot t (a term's place) has a name and 49 truth values: 0 for no version, v + 1 for version v. -/
abbrev SLt : Type := (Nat → Nat) × (Nat → Nat → Bool)
abbrev DS : Type := (Nat → Int32) × (Nat → Nat) × (Nat → Nat) × (Nat → Int32) × (Nat → Int32) × (Nat → Int64)
abbrev QS : Type := (Nat → Nat) × (Nat → Nat) × (Nat → Nat) × (Nat → Int32) × (Nat → Int64)
abbrev KS : Type := Nat × Nat × Nat × Nat
abbrev MS : Type := (Nat → Nat) × KS × SLt × (Nat → Nat) × DS × QS × GS
abbrev mV (v : MS) : Nat → Nat := v.1
abbrev mK (v : MS) : KS := v.2.1
abbrev mN (v : MS) : Nat := v.2.1.1
abbrev mT (v : MS) : Nat := v.2.1.2.1
abbrev mB (v : MS) : Nat := v.2.1.2.2.1
abbrev mD (v : MS) : Nat := v.2.1.2.2.2
abbrev mL (v : MS) : SLt := v.2.2.1
abbrev mP (v : MS) : Nat → Nat := v.2.2.2.1
abbrev mE (v : MS) : DS := v.2.2.2.2.1
abbrev mQ (v : MS) : QS := v.2.2.2.2.2.1
abbrev mO (v : MS) : GS := v.2.2.2.2.2.2
abbrev sV (v : MS) (x : Nat → Nat) : MS := (x, v.2)
abbrev sK (v : MS) (x : KS) : MS := (v.1, x, v.2.2)
abbrev sL (v : MS) (x : SLt) : MS := (v.1, v.2.1, x, v.2.2.2)
abbrev sP (v : MS) (x : Nat → Nat) : MS := (v.1, v.2.1, v.2.2.1, x, v.2.2.2.2)
abbrev sE (v : MS) (x : DS) : MS := (v.1, v.2.1, v.2.2.1, v.2.2.2.1, x, v.2.2.2.2.2)
abbrev sQ (v : MS) (x : QS) : MS := (v.1, v.2.1, v.2.2.1, v.2.2.2.1, v.2.2.2.2.1, x, v.2.2.2.2.2.2)
abbrev sO (v : MS) (x : GS) : MS := (v.1, v.2.1, v.2.2.1, v.2.2.2.1, v.2.2.2.2.1, v.2.2.2.2.2.1, x)
abbrev qN (q : QS) : Nat → Nat := q.1
abbrev qV (q : QS) : Nat → Nat := q.2.1
abbrev qO (q : QS) : Nat → Nat := q.2.2.1
abbrev qK (q : QS) : Nat → Int32 := q.2.2.2.1
abbrev qS (q : QS) : Nat → Int64 := q.2.2.2.2
abbrev dN (d : DS) : Nat → Int32 := d.1
abbrev dF (d : DS) : Nat → Nat := d.2.1
abbrev dL (d : DS) : Nat → Nat := d.2.2.1
abbrev dO (d : DS) : Nat → Int32 := d.2.2.2.1
abbrev dK (d : DS) : Nat → Int32 := d.2.2.2.2.1
abbrev dS (d : DS) : Nat → Int64 := d.2.2.2.2.2
/-- the reference's cells -/
def MW (a : Nat → Nat) (cI cJ cZ : ClassId) (v : MS) : va_W := [
  (a 0, .inr (6, [.int 0, .ref (a 1), .int (nI (mN v)), .int (nI (mT v)), .int (nI (mB v)), .int (nI (mD v)), .ref (a 2), .ref (a 3), .ref (a 4), .ref (a 5), .ref (a 6), .ref (a 7), .ref (a 8), .ref (a 9), .ref (a 10), .ref (a 11), .ref (a 12), .ref (a 13), .ref (a 14), .ref (a 15), .ref (a 16), .int (nI (mO v).1)])),
  (a 1, .inl (cI, 16, .inl (fun j => nI (mV v j)))),
  (a 2, .inl (cI, 5420, .inl (fun j => nI ((mL v).1 j)))),
  (a 3, .inl (cZ, 265580, .inl (fun j => bI ((mL v).2 (j / 49) (j % 49))))),
  (a 4, .inl (cI, 300, .inl (fun j => nI (mP v j)))),
  (a 5, .inl (cI, 300, .inl (dN (mE v)))),
  (a 6, .inl (cI, 300, .inl (fun j => nI (dF (mE v) j)))),
  (a 7, .inl (cI, 300, .inl (fun j => nI (dL (mE v) j)))),
  (a 8, .inl (cI, 300, .inl (dO (mE v)))),
  (a 9, .inl (cI, 300, .inl (dK (mE v)))),
  (a 10, .inl (cJ, 300, .inr (.inl (dS (mE v))))),
  (a 11, .inl (cI, 400, .inl (fun j => nI (qN (mQ v) j)))),
  (a 12, .inl (cI, 400, .inl (fun j => nI (qV (mQ v) j)))),
  (a 13, .inl (cI, 400, .inl (fun j => nI (qO (mQ v) j)))),
  (a 14, .inl (cI, 400, .inl (qK (mQ v)))),
  (a 15, .inl (cJ, 400, .inr (.inl (qS (mQ v))))),
  (a 16, .inl (cI, 8000, .inl (mO v).2))]
def v0 : MS := (fun _ => 0, (0, 0, 0, 0), (fun _ => 0, fun _ _ => false), fun _ => 0, (fun _ => 0, fun _ => 0, fun _ => 0, fun _ => 0, fun _ => 0, fun _ => 0), (fun _ => 0, fun _ => 0, fun _ => 0, fun _ => 0, fun _ => 0), (0, fun _ => 0))
-- writing
def updN (f : Nat → Nat) (k x : Nat) : Nat → Nat := fun j => if j = k then x else f j
def updS (f : Nat → Nat → Bool) (t b : Nat) (x : Bool) : Nat → Nat → Bool := fun t' b' => if t' = t ∧ b' = b then x else f t' b'
def setU (f : Nat → Nat → Bool) (t : Nat) (g : Nat → Bool) (k : Nat) : Nat → Nat → Bool := fun t' b' => if t' = t ∧ b' < k then g b' else f t' b'
theorem w_nI (f : Nat → Nat) (k x : Nat) : upd (fun j => nI (f j)) k (nI x) = fun j => nI (updN f k x j) := by
  funext j
  by_cases h : j = k
  · simp [upd, updN, h]
  · simp [upd, updN, h]
theorem w_b (f : Nat → Nat → Bool) {t b : Nat} (hb : b < 49) (x : Bool) : upd (fun j => bI (f (j / 49) (j % 49))) (49 * t + b) (vp_nar .boolean (bI x)) = fun j => bI (updS f t b x (j / 49) (j % 49)) := by
  have e : vp_nar .boolean (bI x) = bI x := by cases x <;> rfl
  rw [e]
  funext j
  by_cases h : j = 49 * t + b
  · subst h
    have h1 : (49 * t + b) / 49 = t := by omega
    have h2 : (49 * t + b) % 49 = b := by omega
    simp [upd, updS, h1, h2]
  · have h1 : ¬ (j / 49 = t ∧ j % 49 = b) := by omega
    simp [upd, updS, h, h1]
theorem setU_0 (f : Nat → Nat → Bool) (t : Nat) (g : Nat → Bool) : setU f t g 0 = f := by
  funext t' b'
  simp [setU]
theorem setU_s (f : Nat → Nat → Bool) (t : Nat) (g : Nat → Bool) (k : Nat) (x : Bool) (hx : x = g k) : updS (setU f t g k) t k x = setU f t g (k + 1) := by
  funext t' b'
  unfold updS setU
  by_cases h1 : t' = t
  · by_cases h2 : b' = k
    · simp [h1, h2, hx]
    · by_cases h3 : b' < k
      · simp [h1, h2, h3, Nat.lt_succ_of_lt h3]
      · have : ¬ b' < k + 1 := by omega
        simp [h1, h2, h3, this]
  · simp [h1]
theorem setU_at (f : Nat → Nat → Bool) (t : Nat) (g : Nat → Bool) (k a : Nat) : setU f t g k a k = f a k := by
  simp [setU]
theorem setU_in (f : Nat → Nat → Bool) (t : Nat) (g : Nat → Bool) {k b : Nat} (h : b < k) : setU f t g k t b = g b := by
  simp [setU, h]
theorem setU_out (f : Nat → Nat → Bool) (t : Nat) (g : Nat → Bool) (k : Nat) {a : Nat} (h : a ≠ t) (b : Nat) : setU f t g k a b = f a b := by
  simp [setU, h]
-- places
def vI (b : Nat) : Int32 := nI b - 1
theorem vI_s (b : Nat) : vI (b + 1) = nI b := nI_pred b
theorem vI_0 : vI 0 = -1 := by decide
theorem vI_inc (b : Nat) : vI b + Int32.ofInt 1 = vI (b + 1) := by
  show nI b - 1 + 1 = nI (b + 1) - 1
  rw [nI_pred, Int32.sub_add_cancel]
theorem vI_toInt {b : Nat} (h : b < 2 ^ 30) : (vI b).toInt = (b : Int) - 1 := by
  have := pk_sub_toInt (a := b) (b := 1) h (by decide)
  exact this
theorem vI_le {k b : Nat} (hk : k < 2 ^ 30) (hb : b < 2 ^ 30) : nI k ≤ vI b ↔ k + 1 ≤ b := by
  rw [Int32.le_iff_toInt_le, vI_toInt hb, nI_toInt (by omega)]
  omega
theorem ix49 (t b : Nat) : 49 * nI t + vI b + 1 = nI (49 * t + b) := by
  show nI 49 * nI t + (nI b - 1) + 1 = nI (49 * t + b)
  rw [pk_mul, ← nI_add, Int32.add_assoc, Int32.sub_add_cancel]
theorem ix600 (k i : Nat) : 600 + 16 * nI k + nI i = nI (600 + 16 * k + i) := by
  show nI 600 + nI 16 * nI k + nI i = nI (600 + 16 * k + i)
  rw [pk_mul, nI_add, nI_add]
theorem ix600m (k i : Nat) : 600 + 16 * nI k + nI (i + 1) - 1 = nI (600 + 16 * k + i) := by
  rw [ix600, show 600 + 16 * k + (i + 1) = (600 + 16 * k + i) + 1 by omega, nI_pred]
theorem ix5400 (n : Nat) : 5400 + nI n = nI (5400 + n) := nI_add 5400 n
theorem in49 {t b : Nat} (ht : t < 5420) (hb : b < 49) : vp_in (49 * nI t + vI b + 1) 265580 := by
  rw [ix49]
  exact vp_in_nI (by omega) (by decide)
theorem cl49 {t b : Nat} (ht : t < 5420) (hb : b < 49) : (49 * nI t + vI b + 1).toNatClampNeg = 49 * t + b := by
  rw [ix49]
  exact nI_clamp (by omega)
theorem dm49 {t b : Nat} (hb : b < 49) : (49 * t + b) / 49 = t ∧ (49 * t + b) % 49 = b := by omega
-- folds
def allB (P : Nat → Bool) : Nat → Bool
  | 0 => true
  | n + 1 => allB P n && P n
def anyB (P : Nat → Bool) : Nat → Bool
  | 0 => false
  | n + 1 => anyB P n || P n
def cntB (P : Nat → Bool) : Nat → Nat
  | 0 => 0
  | n + 1 => cntB P n + (if P n = true then 1 else 0)
def orS (P : Nat → Bool) : Nat → Int64
  | 0 => 0
  | n + 1 => orS P n ||| (if P n = true then s_bit (nI n) else 0)
-- slots
def m_full (vs : Nat → Nat) (s : SLt) (t : Nat) : SLt := (s.1, setU s.2 t (fun b => decide (b ≤ vs (s.1 t))) 49)
def sbit (set : Int64) (v : Nat) : Bool := decide ((set >>> ((nI v).toInt64 &&& 63)) &&& 1 = 1)
def m_mk (vs : Nat → Nat) (x : Nat) (set : Int64) (w : Bool) (b : Nat) : Bool := match b with
  | 0 => !w
  | v + 1 => if v < vs x then sbit set v == w else false
def m_make (vs : Nat → Nat) (s : SLt) (t x : Nat) (set : Int64) (w : Bool) : SLt := (updN s.1 t x, setU s.2 t (m_mk vs x set w) 49)
def m_copy (s : SLt) (t u : Nat) : SLt := (updN s.1 t (s.1 u), setU s.2 t (s.2 u) 49)
def m_jn (s : SLt) (x y : Nat) (e : Bool) (b : Nat) : Bool := if e = true then s.2 x b || s.2 y b else s.2 x b && s.2 y b
def m_join (s : SLt) (t x y : Nat) (e : Bool) : SLt := (updN s.1 t (s.1 x), setU s.2 t (m_jn s x y e) 49)
def m_isFull (vs : Nat → Nat) (s : SLt) (t : Nat) : Bool := allB (s.2 t) (vs (s.1 t) + 1)
def m_isW (s : SLt) (t : Nat) : Bool := !(s.2 t 0)
def m_isL (vs : Nat → Nat) (s : SLt) (t v : Nat) : Bool := if v < vs (s.1 t) then s.2 t (v + 1) == m_isW s t else false
def m_setOf (vs : Nat → Nat) (s : SLt) (t : Nat) : Int64 := orS (m_isL vs s t) 48
def m_about (vs : Nat → Nat) (s : SLt) (t : Nat) (w : Int32) : Int32 := if w = 0 then nI (s.1 t) else if w = 1 then bI (m_isW s t) else if w = 2 then nI (cntB (m_isL vs s t) 48) else -1
def m_rel (s : SLt) (x y : Nat) : Int32 := if anyB (fun b => s.2 x b && s.2 y b) 49 = false then -1 else if allB (fun b => !(s.2 x b) || s.2 y b) 49 = true then 1 else 0
theorem zW_cast {p : Program} {l : Launch} {e : Env} {R : Room} {s : State} {m : MethodId} {args : Array Value} {below : List Frame} {meth : Method} {c : Code} {D : va_G} {cl : List vw_C} {A : Nat → Prop} {nL cells slots : Nat} {Q : State → Prop} {ws ws' : va_W} {pc : Nat} {lv : List (Nat × Value)} {st : List Value} (hw : ws = ws') (kk : zW p l e R s m args below meth c D cl A nL cells slots Q ws' pc lv st) : zW p l e R s m args below meth c D cl A nL cells slots Q ws pc lv st := hw ▸ kk
theorem bI_eq {x y : Bool} : bI x = bI y ↔ x = y := by cases x <;> cases y <;> simp [bI]
theorem bI_1 {x : Bool} : (1 : Int32) = bI x ↔ x = true := by cases x <;> simp [bI]
theorem bI_z {x : Bool} : (0 : Int32) = bI x ↔ x = false := by cases x <;> simp [bI]
theorem nI_z (n : Nat) : nI n + 0 = nI n := Int32.add_zero _
theorem e_vn {v : MS} {t : Nat} (ht : t < 5420) (hn : (mL v).1 t < 16) : nI (mV v (nI ((mL v).1 (nI t).toNatClampNeg)).toNatClampNeg) = nI (mV v ((mL v).1 t)) := by
  rw [nI_clamp (show t < 2 ^ 31 by omega), nI_clamp (show (mL v).1 t < 2 ^ 31 by omega)]
theorem in_vn {v : MS} {t : Nat} (ht : t < 5420) (hn : (mL v).1 t < 16) : vp_in (nI ((mL v).1 (nI t).toNatClampNeg)) 16 := by
  rw [nI_clamp (show t < 2 ^ 31 by omega)]
  exact vp_in_nI hn (by decide)
theorem mk_0 {vs : Nat → Nat} {x : Nat} {set : Int64} {w : Bool} {r : Bool} (h : r = !w) : r = m_mk vs x set w 0 := h
theorem mk_no {vs : Nat → Nat} {x : Nat} {set : Int64} {w : Bool} {i : Nat} (h : ¬ i < vs x) : false = m_mk vs x set w (i + 1) := by simp [m_mk, h]
theorem mk_yes {vs : Nat → Nat} {x : Nat} {set : Int64} {w r : Bool} {i : Nat} (h : i < vs x) (hr : r = (sbit set i == w)) : r = m_mk vs x set w (i + 1) := by simp [m_mk, h, hr]
theorem sbit_t {set : Int64} {i : Nat} (h : (set >>> ((nI i).toInt64 &&& 63)) &&& 1 = 1) : sbit set i = true := by unfold sbit; exact decide_eq_true h
theorem sbit_f {set : Int64} {i : Nat} (h : ¬ (set >>> ((nI i).toInt64 &&& 63)) &&& 1 = 1) : sbit set i = false := by unfold sbit; exact decide_eq_false h
