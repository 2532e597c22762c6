/-! WHAT THE METHODS OF DemandTerms ANSWER AND DO, as functions of the held numbers. -/
abbrev NS : Type := Nat × (Nat → Int64)
abbrev TS : Type := Nat × (Nat → Int32) × (Nat → Int64)
abbrev RS : Type := Nat × (Nat → Int32) × (Nat → Int32) × (Nat → Int32) × (Nat → Int64) × (Nat → Int32)
abbrev CS : Type := Nat × (Nat → Int32) × (Nat → Int64) × (Nat → Int32) × (Nat → Int64)
abbrev GS : Type := Nat × (Nat → Int32)
abbrev US : Type := NS × TS × RS × CS × (Nat → Int64) × GS
abbrev uN (u : US) : NS := u.1
abbrev uT (u : US) : TS := u.2.1
abbrev uR (u : US) : RS := u.2.2.1
abbrev uC (u : US) : CS := u.2.2.2.1
abbrev uH (u : US) : Nat → Int64 := u.2.2.2.2.1
abbrev uG (u : US) : GS := u.2.2.2.2.2
abbrev wN (u : US) (x : NS) : US := (x, u.2)
abbrev wT (u : US) (x : TS) : US := (u.1, x, u.2.2)
abbrev wR (u : US) (x : RS) : US := (u.1, u.2.1, x, u.2.2.2)
abbrev wC (u : US) (x : CS) : US := (u.1, u.2.1, u.2.2.1, x, u.2.2.2.2)
abbrev wH (u : US) (x : Nat → Int64) : US := (u.1, u.2.1, u.2.2.1, u.2.2.2.1, x, u.2.2.2.2.2)
abbrev wG (u : US) (x : GS) : US := (u.1, u.2.1, u.2.2.1, u.2.2.2.1, u.2.2.2.2.1, x)
/-- the sizes keep their bounds -/
def uOk (u : US) : Prop := (uN u).1 ≤ 16 ∧ (uT u).1 ≤ 600 ∧ (uR u).1 ≤ 400 ∧ (uC u).1 ≤ 300 ∧ (uG u).1 ≤ 1648
def hasIx (n : Nat) (x : Int32) : Bool := if x < 0 then false else if nI n ≤ x then false else true
theorem hasIx_t {n : Nat} (hn : n < 2 ^ 31) {x : Int32} (h : hasIx n x = true) : ∃ j : Nat, j < n ∧ x = nI j := by
  unfold hasIx at h
  by_cases h0 : x < 0
  · simp [h0] at h
  · by_cases h1 : nI n ≤ x
    · simp [h0, h1] at h
    · rcases pk_ix x hn with g | g | g
      · exact absurd g h0
      · exact absurd g h1
      · exact g
theorem hasIx_nI {n j : Nat} (hn : n < 2 ^ 31) (h : j < n) : hasIx n (nI j) = true := by
  unfold hasIx
  rw [if_neg (nI_pos (by omega)), if_neg (nI_ge h hn)]
theorem hasIx_in {n N : Nat} {x : Int32} (h : hasIx n x = true) (hn : n ≤ N) (hN : N < 2 ^ 31) : vp_in x N := by
  obtain ⟨j, hj, rfl⟩ := hasIx_t (by omega) h
  exact vp_in_nI (by omega) hN
-- static functions
def s_want (pl : Int64) : Bool := if (pl &&& 281474976710656) = 0 then true else false
def s_hv (set : Int64) (v : Int32) : Bool := if v < 0 then false else if 48 ≤ v then false else if ((set.toUInt64 >>> (v.toInt64.toUInt64 &&& Int64.toUInt64 63)).toInt64 &&& 1) = 0 then false else true
def s_rel (f g : Int64) : Int32 := if (f &&& g) = 0 then -1 else if (f &&& (g ^^^ (-1))) = 0 then 1 else 0
def s_bit (v : Int32) : Int64 := (1 : Int64) <<< (v.toInt64 &&& 63)
-- Names
def n_ev (n : NS) (x : Int32) : Int64 := if hasIx n.1 x = true then n.2 x.toNatClampNeg else 0
def n_po (n : NS) (x : Int32) (set : Int64) (w : Int32) : Int64 := if w = 0 then n_ev n x ^^^ ((set &&& n_ev n x) &&& (-281474976710657)) else (set &&& n_ev n x) &&& (-281474976710657)
def n_so (n : NS) (x : Int32) (pl : Int64) : Int64 := if s_want pl = true then pl else n_ev n x ^^^ pl
def n_addOk (n : NS) (k : Int32) : Bool := if (16 : Int32) ≤ nI n.1 then false else if k < 0 then false else if k ≤ 48 then true else false
def n_addS (n : NS) (k : Int32) : NS := (n.1 + 1, vp_updL n.2 n.1 ((s_bit k - 1) ||| 281474976710656))
def n_add (n : NS) (k : Int32) : Int32 × NS := if n_addOk n k = true then (nI n.1, n_addS n k) else (-1, n)
-- TermTable
def t_nm (t : TS) (x : Int32) : Int32 := if hasIx t.1 x = true then t.2.1 x.toNatClampNeg else -1
def t_pl (t : TS) (x : Int32) : Int64 := if hasIx t.1 x = true then t.2.2 x.toNatClampNeg else 0
def t_add (t : TS) (x : Int32) (pl : Int64) : Int32 × TS := if (600 : Int32) ≤ nI t.1 then (-1, t) else (nI t.1, (t.1 + 1, upd t.2.1 t.1 x, vp_updL t.2.2 t.1 pl))
-- NeedRows
abbrev rN (r : RS) : Nat → Int32 := r.2.1
abbrev rV (r : RS) : Nat → Int32 := r.2.2.1
abbrev rO (r : RS) : Nat → Int32 := r.2.2.2.1
abbrev rD (r : RS) : Nat → Int64 := r.2.2.2.2.1
abbrev rK (r : RS) : Nat → Int32 := r.2.2.2.2.2
def r_add (r : RS) (x v o : Int32) (d : Int64) (k : Int32) : Bool × RS := if (400 : Int32) ≤ nI r.1 then (false, r) else (true, (r.1 + 1, upd (rN r) r.1 x, upd (rV r) r.1 v, upd (rO r) r.1 o, vp_updL (rD r) r.1 d, upd (rK r) r.1 k))
def r_isOf (r : RS) (i x v : Int32) : Bool := if hasIx r.1 i = true then (if rN r i.toNatClampNeg = x then (if rV r i.toNatClampNeg = v then true else false) else false) else false
def r_alike (r : RS) (i j : Int32) : Bool := if hasIx r.1 i = true then (if hasIx r.1 j = true then (if rN r i.toNatClampNeg = rN r j.toNatClampNeg then (if rO r i.toNatClampNeg = rO r j.toNatClampNeg then (if rD r i.toNatClampNeg = rD r j.toNatClampNeg then (if rK r i.toNatClampNeg = rK r j.toNatClampNeg then true else false) else false) else false) else false) else false) else false
def r_vlk (r : RS) (j : Int32) : Nat → Int64
  | 0 => 0
  | k + 1 => if r_alike r (nI k) j = true then r_vlk r j k ||| s_bit (rV r k) else r_vlk r j k
def r_vl (r : RS) (j : Int32) : Int64 := r_vlk r j r.1
def r_nm (r : RS) (i : Int32) : Int32 := if hasIx r.1 i = true then rN r i.toNatClampNeg else -1
def r_vr (r : RS) (i : Int32) : Int32 := if hasIx r.1 i = true then rV r i.toNatClampNeg else -1
def r_ot (r : RS) (i : Int32) : Int32 := if hasIx r.1 i = true then rO r i.toNatClampNeg else -1
def r_nd (r : RS) (i : Int32) : Int64 := if hasIx r.1 i = true then rD r i.toNatClampNeg else 0
-- Clashes
abbrev cH (c : CS) : Nat → Int32 := c.2.1
abbrev cP (c : CS) : Nat → Int64 := c.2.2.1
abbrev cO (c : CS) : Nat → Int32 := c.2.2.2.1
abbrev cR (c : CS) : Nat → Int64 := c.2.2.2.2
def c_add (c : CS) (src : Int32) (run : Int64) : Int32 × CS := if (300 : Int32) ≤ nI c.1 then (-1, c) else (nI c.1, (c.1 + 1, upd (cH c) c.1 0, cP c, upd (cO c) c.1 src, vp_updL (cR c) c.1 run))
def c_cut (c : CS) (n : Nat) : CS := if n < c.1 then (n, c.2) else c
def c_in16 (x : Int32) : Bool := if x < 0 then false else if (16 : Int32) ≤ x then false else true
def c_put (c : CS) (k x : Int32) (pl : Int64) : CS := if hasIx c.1 k = true then (if c_in16 x = true then (c.1, upd (cH c) k.toNatClampNeg (cH c k.toNatClampNeg ||| ((1 : Int32) <<< (x &&& 31))), vp_updL (cP c) (k.toNatClampNeg * 16 + x.toNatClampNeg) pl, cO c, cR c) else c) else c
def c_holds (c : CS) (k x : Int32) : Bool := if hasIx c.1 k = true then (if c_in16 x = true then (if (((cH c k.toNatClampNeg).toUInt32 >>> (x.toUInt32 &&& Int32.toUInt32 31)).toInt32 &&& 1) = 0 then false else true) else false) else false
def c_pl (c : CS) (k x : Int32) : Int64 := if c_holds c k x = true then cP c (k.toNatClampNeg * 16 + x.toNatClampNeg) else 0
def c_src (c : CS) (k : Int32) : Int32 := if hasIx c.1 k = true then cO c k.toNatClampNeg else -1
def c_run (c : CS) (k : Int32) : Int64 := if hasIx c.1 k = true then cR c k.toNatClampNeg else 0
-- find the first
def fnd (P : Nat → Bool) : Nat → Nat → Option Nat
  | 0, _ => none
  | n + 1, i => if P i = true then some i else fnd P n (i + 1)
def fI : Option Nat → Int32
  | some i => nI i
  | none => -1
-- the JDK's bit counts, as they are computed
def sh32 (x : Int32) (k : Int32) : Int32 := (x.toUInt32 >>> (k.toUInt32 &&& Int32.toUInt32 31)).toInt32
def sh64 (x : Int64) (k : Int32) : Int64 := (x.toUInt64 >>> (k.toInt64.toUInt64 &&& Int64.toUInt64 63)).toInt64
def pcI1 (x : Int32) : Int32 := x - (sh32 x 1 &&& 1431655765)
def pcI2 (x : Int32) : Int32 := (x &&& 858993459) + (sh32 x 2 &&& 858993459)
def pcI3 (x : Int32) : Int32 := (x + sh32 x 4) &&& 252645135
def pcI4 (x : Int32) : Int32 := x + sh32 x 8
def pcI5 (x : Int32) : Int32 := x + sh32 x 16
def pcI (x : Int32) : Int32 := pcI5 (pcI4 (pcI3 (pcI2 (pcI1 x)))) &&& 63
def pcL1 (x : Int64) : Int64 := x - (sh64 x 1 &&& 6148914691236517205)
def pcL2 (x : Int64) : Int64 := (x &&& 3689348814741910323) + (sh64 x 2 &&& 3689348814741910323)
def pcL3 (x : Int64) : Int64 := (x + sh64 x 4) &&& 1085102592571150095
def pcL4 (x : Int64) : Int64 := x + sh64 x 8
def pcL5 (x : Int64) : Int64 := x + sh64 x 16
def pcL6 (x : Int64) : Int64 := x + sh64 x 32
def pcL (x : Int64) : Int32 := (pcL6 (pcL5 (pcL4 (pcL3 (pcL2 (pcL1 x)))))).toInt32 &&& 127
-- Clashes, the rest
def c_parts (c : CS) (k : Int32) : Int32 := if hasIx c.1 k = true then pcI (cH c k.toNatClampNeg) else 0
def c_ix (c : CS) (k x : Int32) : Int32 := if c_holds c k x = true then pcI (cH c k.toNatClampNeg &&& (((1 : Int32) <<< (x &&& 31)) - 1)) else -1
def c_nameAt (c : CS) (k ix : Int32) : Int32 := fI (fnd (fun x => if c_holds c k (nI x) = true then decide (c_ix c k (nI x) = ix) else false) 16 0)
-- Page
def g_put (g : GS) (x : Int32) : GS := if (1648 : Int32) ≤ nI g.1 then g else (g.1 + 1, upd g.2 g.1 (vp_nar .char x))
def i2c (x : Int32) : Int32 := (x.toUInt32 % 65536).toInt32
def g_num (g : GS) (v : Int32) : GS := if v < 10 then g_put g (i2c (48 + (v - v / 10 * 10))) else g_put (g_put g (i2c (48 + v / 10))) (i2c (48 + (v - v / 10 * 10)))
def g_runs (st en : Int64) : Nat → Nat → Int32 → GS → GS
  | 0, _, _, g => g
  | n + 1, v, f, g => if s_hv st (nI v) = true then g_runs st en n (v + 1) 0 (g_num (if f = 0 then g_put g 44 else g) (nI v)) else if s_hv en (nI v) = true then g_runs st en n (v + 1) f (g_num (g_put g 45) (nI v)) else g_runs st en n (v + 1) f g
def g_starts (s : Int64) : Int64 := s &&& ((s <<< ((1 : Int32).toInt64 &&& 63)) ^^^ (-1))
def g_ends (s : Int64) : Int64 := s &&& (sh64 s 1 ^^^ (-1))
def g_putRuns (g : GS) (s : Int64) : GS := g_runs (g_starts s) (g_ends s) 48 0 1 g
def g_at (g : GS) (i : Int32) : Int32 := if i < 0 then -1 else if nI g.1 ≤ i then -1 else if i < 1648 then g.2 i.toNatClampNeg else -1
-- DemandTerms
def d_desc (u : US) (x : Int32) (pl : Int64) (w : Int32) : Int32 := if w = 0 then x else if w = 1 then bI (s_want pl) else if w = 2 then pcL (n_so (uN u) x pl) else -1
def d_isD (u : US) (row : Int32) : Bool := (fnd (fun k => if r_alike (uR u) (c_src (uC u) (nI k)) row = true then s_hv (c_run (uC u) (nI k)) (r_vr (uR u) row) else false) (uC u).1 0).isSome
def ra_dn (vs : Int64) : Nat → Int64 → Int64
  | 0, r => r
  | j + 1, r => if s_hv vs (nI j) = true then ra_dn vs j (r ||| s_bit (nI j)) else r
def ra_up (vs : Int64) : Nat → Nat → Int64 → Int64
  | 0, _, r => r
  | n + 1, i, r => if s_hv vs (nI i) = true then ra_up vs n (i + 1) (r ||| s_bit (nI i)) else r
def s_ra (vs : Int64) (v : Nat) : Int64 := ra_up vs (47 - v) (v + 1) (ra_dn vs v (s_bit (nI v)))
def d_ppC (u : US) (k x : Int32) (pl : Int64) : CS := if pl = n_ev (uN u) x then uC u else c_put (uC u) k x pl
def d_pp (u : US) (k x : Int32) (pl : Int64) : US := wC u (d_ppC u k x pl)
def d_pin (u : US) (k x : Int32) : Int64 := if c_holds (uC u) k x = true then c_pl (uC u) k x else n_ev (uN u) x
def d_run (u : US) (row : Int32) : Int64 := s_ra (r_vl (uR u) row) (r_vr (uR u) row).toNatClampNeg
def d_df1 (u : US) (row : Int32) : US := wC u (c_add (uC u) row (d_run u row)).2
def d_df2 (u : US) (row : Int32) : US := d_pp (d_df1 u row) (nI (uC u).1) (r_nm (uR u) row) (d_run u row)
def d_df3 (u : US) (row : Int32) : US := d_pp (d_df2 u row) (nI (uC u).1) (r_ot (uR u) row) (n_po (uN u) (r_ot (uR u) row) (r_nd (uR u) row) 0)
def d_df (u : US) (row : Int32) : Bool × CS := if (300 : Int32) ≤ nI (uC u).1 then (false, uC u) else (true, uC (d_df3 u row))
def d_dlp (u : US) (x v : Int32) : Nat → Nat → CS → Bool × CS
  | 0, _, c => (true, c)
  | n + 1, i, c => if r_isOf (uR u) (nI i) x v = true then (if d_isD (wC u c) (nI i) = true then d_dlp u x v n (i + 1) c else if (d_df (wC u c) (nI i)).1 = true then d_dlp u x v n (i + 1) (d_df (wC u c) (nI i)).2 else (false, (d_df (wC u c) (nI i)).2)) else d_dlp u x v n (i + 1) c
def d_deriveC (u : US) (x v : Int32) : Int32 × CS := if s_hv (n_ev (uN u) x) v = true then (if (d_dlp u x v (uR u).1 0 (uC u)).1 = true then (nI (d_dlp u x v (uR u).1 0 (uC u)).2.1 - nI (uC u).1, (d_dlp u x v (uR u).1 0 (uC u)).2) else (-1, c_cut (d_dlp u x v (uR u).1 0 (uC u)).2 (uC u).1)) else (-1, uC u)
def d_barC (u : US) (x : Int32) (set : Int64) (dm : Int32) : Int32 × CS := if hasIx (uN u).1 x = true then (if (300 : Int32) ≤ nI (uC u).1 then (-1, uC u) else (nI (uC u).1, d_ppC (wC u (c_add (uC u) (-1) 0).2) (nI (uC u).1) x (n_po (uN u) x set (if dm = 0 then 1 else 0)))) else (-1, uC u)
def d_lp (u : US) (a b x : Int32) (i : Nat) : Int64 := if nI i = x then d_pin u a (nI i) ||| d_pin u b (nI i) else d_pin u a (nI i) &&& d_pin u b (nI i)
def d_ll (u : US) (a b x k : Int32) : Nat → Nat → CS → CS
  | 0, _, c => c
  | n + 1, i, c => d_ll u a b x k n (i + 1) (d_ppC (wC u c) k (nI i) (d_lp (wC u c) a b x i))
def d_learnC (u : US) (a b x : Int32) : Int32 × CS := if c_holds (uC u) a x = true then (if c_holds (uC u) b x = true then (if (300 : Int32) ≤ nI (uC u).1 then (-1, uC u) else (nI (uC u).1, d_ll u a b x (nI (uC u).1) (uN u).1 0 (c_add (uC u) (-1) 0).2)) else (-1, uC u)) else (-1, uC u)
def d_narH (u : US) (x : Int32) (pl : Int64) : Nat → Int64 := if hasIx (uN u).1 x = true then vp_updL (uH u) x.toNatClampNeg (uH u x.toNatClampNeg &&& pl) else uH u
def d_nar (u : US) (x : Int32) (pl : Int64) : US := wH u (d_narH u x pl)
def d_fgl (u : US) : Nat → Nat → (Nat → Int64) → (Nat → Int64)
  | 0, _, h => h
  | n + 1, i, h => d_fgl u n (i + 1) (vp_updL h i (n_ev (uN u) (nI i)))
def d_rel (u : US) (k x : Int32) : Int32 := if hasIx (uN u).1 x = true then s_rel (uH u x.toNatClampNeg) (c_pl (uC u) k x) else 0
def d_stl (u : US) (k : Int32) : Nat → Nat → Nat → Int32
  | 0, _, o => if o = 0 then 1 else if o = 1 then 2 else 0
  | n + 1, i, o => if c_holds (uC u) k (nI i) = true then (if d_rel u k (nI i) = -1 then -1 else if d_rel u k (nI i) = 0 then d_stl u k n (i + 1) (o + 1) else d_stl u k n (i + 1) o) else d_stl u k n (i + 1) o
def d_st (u : US) (k : Int32) : Int32 := d_stl u k (uN u).1 0 0
def d_on (u : US) (k : Int32) : Int32 := fI (fnd (fun i => if c_holds (uC u) k (nI i) = true then decide (d_rel u k (nI i) = 0) else false) (uN u).1 0)
def d_forceH (u : US) (k : Int32) : Nat → Int64 := if d_on u k = -1 then uH u else d_narH u (d_on u k) (n_ev (uN u) (d_on u k) ^^^ c_pl (uC u) k (d_on u k))
def d_fk (u : US) : Int32 := fI (fnd (fun k => decide (d_st u (nI k) = 1)) (uC u).1 0)
def d_spi (u : US) : Nat → Nat → Int32 → (Nat → Int64) → Option Int32 × Int32 × (Nat → Int64)
  | 0, _, f, h => (none, f, h)
  | n + 1, k, f, h => if d_st (wH u h) (nI k) = 1 then (some (d_fk (wH u h)), f, h) else if d_st (wH u h) (nI k) = 2 then d_spi u n (k + 1) 1 (d_forceH (wH u h) (nI k)) else d_spi u n (k + 1) f h
def d_spo (u : US) : Nat → Int32 → (Nat → Int64) → Int32 × (Nat → Int64)
  | 0, _, h => (-1, h)
  | n + 1, f, h => if f = 0 then (-1, h) else match d_spi u (uC u).1 0 0 h with
    | (some r, _, h') => (r, h')
    | (none, f', h') => d_spo u n f' h'
def d_spread (u : US) : Int32 × (Nat → Int64) := d_spo u 785 1 (uH u)
def d_prA (g : GS) : GS := if 0 < nI g.1 then g_put (g_put g 59) 32 else g
def d_prB (g : GS) (pl : Int64) : GS := if s_want pl = true then g else g_put g 33
def d_pr (u : US) (x : Int32) (pl : Int64) (g : GS) : GS := g_putRuns (g_put (g_put (d_prB (d_prA g) pl) (i2c (97 + x))) 32) (n_so (uN u) x pl)
def d_prl (u : US) (k : Int32) : Nat → Nat → GS → GS
  | 0, _, g => g
  | n + 1, i, g => d_prl u k n (i + 1) (if c_holds (uC u) k (nI i) = true then d_pr u (nI i) (c_pl (uC u) k (nI i)) g else g)
def d_print (u : US) (k : Int32) : Int32 × GS := if hasIx (uC u).1 k = true then (nI (d_prl u k (uN u).1 0 (0, (uG u).2)).1, d_prl u k (uN u).1 0 (0, (uG u).2)) else (-1, uG u)
-- the public methods
def d_ver (u : US) (k : Int32) : Int32 × US := if n_addOk (uN u) k = true then (nI (uN u).1, wH (wN u (n_addS (uN u) k)) (vp_updL (uH u) (uN u).1 (n_ev (n_addS (uN u) k) (nI (uN u).1)))) else (-1, u)
def d_term (u : US) (x : Int32) (set : Int64) (w : Int32) : Int32 × TS := if hasIx (uN u).1 x = true then t_add (uT u) x (n_po (uN u) x set w) else (-1, uT u)
def d_bothOk (u : US) (x y : Int32) : Bool := if hasIx (uT u).1 x = true then (if hasIx (uT u).1 y = true then (if t_nm (uT u) x = t_nm (uT u) y then true else false) else false) else false
def d_bothP (u : US) (x y w : Int32) : Int64 := if w = 0 then t_pl (uT u) x &&& t_pl (uT u) y else t_pl (uT u) x ||| t_pl (uT u) y
def d_both (u : US) (x y w : Int32) : Int32 × TS := if d_bothOk u x y = true then t_add (uT u) (t_nm (uT u) x) (d_bothP u x y w) else (-1, uT u)
def d_relate (u : US) (x y : Int32) : Int32 := if hasIx (uT u).1 x = true then (if hasIx (uT u).1 y = true then (if t_pl (uT u) x = 0 then s_rel (t_pl (uT u) x) (t_pl (uT u) y) else if t_nm (uT u) x = t_nm (uT u) y then s_rel (t_pl (uT u) x) (t_pl (uT u) y) else 0) else -2) else -2
def d_about (u : US) (x w : Int32) : Int32 := if hasIx (uT u).1 x = true then d_desc u (t_nm (uT u) x) (t_pl (uT u) x) w else -1
def d_set (u : US) (x : Int32) : Int64 := if hasIx (uT u).1 x = true then n_so (uN u) (t_nm (uT u) x) (t_pl (uT u) x) else 0
def d_needsOk (u : US) (x v o k : Int32) : Bool := if s_hv (n_ev (uN u) x) v = true then (if hasIx (uN u).1 o = true then (if o = x then false else if k < 0 then false else if k < 8 then true else false) else false) else false
def d_needs (u : US) (x v o : Int32) (set : Int64) (k : Int32) : Bool × RS := if d_needsOk u x v o k = true then r_add (uR u) x v o (n_po (uN u) o set 1) k else (false, uR u)
def d_terms (u : US) (k : Int32) : Int32 := if hasIx (uC u).1 k = true then c_parts (uC u) k else -1
def d_part (u : US) (k i w : Int32) : Int32 := if c_nameAt (uC u) k i = -1 then -1 else d_desc u (c_nameAt (uC u) k i) (c_pl (uC u) k (c_nameAt (uC u) k i)) w
def d_partSet (u : US) (k i : Int32) : Int64 := if c_nameAt (uC u) k i = -1 then 0 else n_so (uN u) (c_nameAt (uC u) k i) (c_pl (uC u) k (c_nameAt (uC u) k i))
def d_choose (u : US) (x : Int32) : Bool × (Nat → Int64) := if hasIx (uT u).1 x = true then (true, d_narH u (t_nm (uT u) x) (t_pl (uT u) x)) else (false, uH u)
def d_forgetH (u : US) : Nat → Int64 := d_fgl u (uN u).1 0 (uH u)
def d_state (u : US) (k : Int32) : Int32 := if hasIx (uC u).1 k = true then d_st u k else -2
def d_forced (u : US) (k : Int32) : Int32 := if hasIx (uC u).1 k = true then (if d_st u k = 2 then c_ix (uC u) k (d_on u k) else -1) else -1
def d_chosen (u : US) (x w : Int32) : Int32 := if hasIx (uN u).1 x = true then d_desc u x (uH u x.toNatClampNeg) w else -1
def d_chosenSet (u : US) (x : Int32) : Int64 := if hasIx (uN u).1 x = true then n_so (uN u) x (uH u x.toNatClampNeg) else 0
-- small facts for the walks
theorem inc1 (i : Nat) : nI i + Int32.ofInt 1 = nI (i + 1) := nI_1 i
theorem dec1 (i : Nat) : nI (i + 1) + Int32.ofInt (-1) = nI i := pk_m1 i
theorem i_le_of_not_lt {x y : Int32} (h : ¬ x < y) : y ≤ x := Int32.not_lt.mp h
theorem i_not_le_of_lt {x y : Int32} (h : x < y) : ¬ y ≤ x := Int32.not_le.mpr h
theorem ad_lt {n N : Nat} (h : n ≤ N) (hN : N < 2 ^ 31) (c : ¬ nI N ≤ nI n) : n < N := by
  rcases Nat.lt_or_ge n N with q | q
  · exact q
  · exact absurd (nI_le q (by omega)) c
theorem in16_nI {x : Int32} (c9 : ¬ x < 0) (c15 : ¬ (16 : Int32) ≤ x) : ∃ i : Nat, i < 16 ∧ x = nI i := by
  rcases pk_ix x (n := 16) (by decide) with g | g | g
  · exact absurd g c9
  · exact absurd g c15
  · exact g
theorem c_inP {n : Nat} {k x : Int32} (h : hasIx n k = true) (hn : n ≤ 300) (c9 : ¬ x < 0) (c15 : ¬ (16 : Int32) ≤ x) : vp_in (k * 16 + x) 4800 ∧ (k * 16 + x).toNatClampNeg = k.toNatClampNeg * 16 + x.toNatClampNeg := by
  obtain ⟨j, hj, rfl⟩ := hasIx_t (by omega) h
  obtain ⟨i, hi, rfl⟩ := in16_nI c9 c15
  have e : nI j * 16 + nI i = nI (j * 16 + i) := by rw [show (16 : Int32) = nI 16 from rfl, pk_mul, nI_add]
  rw [e, nI_clamp (by omega), nI_clamp (by omega), nI_clamp (by omega)]
  exact ⟨vp_in_nI (by omega) (by decide), rfl⟩
theorem c_holds_t {c : CS} {k x : Int32} (h : c_holds c k x = true) : hasIx c.1 k = true ∧ ¬ x < 0 ∧ ¬ (16 : Int32) ≤ x := by
  unfold c_holds c_in16 at h
  by_cases h1 : hasIx c.1 k = true
  · by_cases h2 : x < 0
    · simp [h1, h2] at h
    · by_cases h3 : (16 : Int32) ≤ x
      · simp [h1, h2, h3] at h
      · exact ⟨h1, h2, h3⟩
  · simp [h1] at h
theorem c_holds_has {c : CS} {k x : Int32} (h : c_holds c k x = true) : hasIx c.1 k = true := (c_holds_t h).1
theorem c_inH {c : CS} {k x : Int32} (h : c_holds c k x = true) (hn : c.1 ≤ 300) : vp_in (k * 16 + x) 4800 ∧ (k * 16 + x).toNatClampNeg = k.toNatClampNeg * 16 + x.toNatClampNeg := c_inP (c_holds_t h).1 hn (c_holds_t h).2.1 (c_holds_t h).2.2
theorem g_atIn {i : Int32} (c1 : ¬ i < 0) (c18 : i < 1648) : vp_in i 1648 := by
  rcases pk_ix i (n := 1648) (by decide) with g | g | ⟨j, hj, rfl⟩
  · exact absurd g c1
  · exact absurd g (i_not_le_of_lt c18)
  · exact vp_in_nI hj (by decide)
-- the bounds stay
theorem ok_nadd {u : US} (k : Int32) (hu : uOk u) : uOk (wN u (n_add (uN u) k).2) := by
  refine ⟨?_, hu.2⟩
  unfold n_add
  by_cases h : n_addOk (uN u) k = true
  · rw [if_pos h]
    have h1 : ¬ (16 : Int32) ≤ nI (uN u).1 := by
      intro q
      unfold n_addOk at h
      simp [q] at h
    have := ad_lt (N := 16) hu.1 (by decide) h1
    show (uN u).1 + 1 ≤ 16
    omega
  · rw [if_neg h]
    exact hu.1
theorem ok_tadd {u : US} (x : Int32) (pl : Int64) (hu : uOk u) : uOk (wT u (t_add (uT u) x pl).2) := by
  refine ⟨hu.1, ?_, hu.2.2⟩
  unfold t_add
  by_cases h : (600 : Int32) ≤ nI (uT u).1
  · rw [if_pos h]; exact hu.2.1
  · rw [if_neg h]
    have := ad_lt (N := 600) hu.2.1 (by decide) h
    show (uT u).1 + 1 ≤ 600
    omega
theorem ok_radd {u : US} (x v o : Int32) (d : Int64) (k : Int32) (hu : uOk u) : uOk (wR u (r_add (uR u) x v o d k).2) := by
  refine ⟨hu.1, hu.2.1, ?_, hu.2.2.2⟩
  unfold r_add
  by_cases h : (400 : Int32) ≤ nI (uR u).1
  · rw [if_pos h]; exact hu.2.2.1
  · rw [if_neg h]
    have := ad_lt (N := 400) hu.2.2.1 (by decide) h
    show (uR u).1 + 1 ≤ 400
    omega
theorem ok_cadd {u : US} (x : Int32) (r : Int64) (hu : uOk u) : uOk (wC u (c_add (uC u) x r).2) := by
  refine ⟨hu.1, hu.2.1, hu.2.2.1, ?_, hu.2.2.2.2⟩
  unfold c_add
  by_cases h : (300 : Int32) ≤ nI (uC u).1
  · rw [if_pos h]; exact hu.2.2.2.1
  · rw [if_neg h]
    have := ad_lt (N := 300) hu.2.2.2.1 (by decide) h
    show (uC u).1 + 1 ≤ 300
    omega
theorem c_put_1 (c : CS) (k x : Int32) (pl : Int64) : (c_put c k x pl).1 = c.1 := by
  unfold c_put
  by_cases h1 : hasIx c.1 k = true
  · by_cases h2 : c_in16 x = true
    · simp [h1, h2]
    · simp [h1, h2]
  · simp [h1]
theorem ok_cput {u : US} (k x : Int32) (pl : Int64) (hu : uOk u) : uOk (wC u (c_put (uC u) k x pl)) := by
  refine ⟨hu.1, hu.2.1, hu.2.2.1, ?_, hu.2.2.2.2⟩
  rw [c_put_1]
  exact hu.2.2.2.1
theorem ok_cut {u : US} (n : Nat) (hu : uOk u) : uOk (wC u (c_cut (uC u) n)) := by
  refine ⟨hu.1, hu.2.1, hu.2.2.1, ?_, hu.2.2.2.2⟩
  have := hu.2.2.2.1
  unfold c_cut
  by_cases h : n < (uC u).1
  · rw [if_pos h]
    show n ≤ 300
    omega
  · rw [if_neg h]
    exact this
theorem ppC_1 (u : US) (k x : Int32) (pl : Int64) : (d_ppC u k x pl).1 = (uC u).1 := by
  unfold d_ppC
  by_cases h : pl = n_ev (uN u) x
  · rw [if_pos h]
  · rw [if_neg h]; exact c_put_1 _ _ _ _
theorem ok_pp {u : US} (k x : Int32) (pl : Int64) (hu : uOk u) : uOk (d_pp u k x pl) :=
  ⟨hu.1, hu.2.1, hu.2.2.1, by rw [show (uC (d_pp u k x pl)).1 = (uC u).1 from ppC_1 u k x pl]; exact hu.2.2.2.1, hu.2.2.2.2⟩
theorem ok_h {u : US} (f : Nat → Int64) (hu : uOk u) : uOk (wH u f) := hu
theorem ok_gput {u : US} (x : Int32) (hu : uOk u) : uOk (wG u (g_put (uG u) x)) := by
  refine ⟨hu.1, hu.2.1, hu.2.2.1, hu.2.2.2.1, ?_⟩
  unfold g_put
  by_cases h : (1648 : Int32) ≤ nI (uG u).1
  · rw [if_pos h]; exact hu.2.2.2.2
  · rw [if_neg h]
    have := ad_lt (N := 1648) hu.2.2.2.2 (by decide) h
    show (uG u).1 + 1 ≤ 1648
    omega
theorem ok_g0 {u : US} (hu : uOk u) : uOk (wG u (0, (uG u).2)) := ⟨hu.1, hu.2.1, hu.2.2.1, hu.2.2.2.1, Nat.zero_le _⟩
theorem sw3 {w : Int32} (h0 : ¬ w = 0) (h1 : ¬ w = 1) (h2 : ¬ w = 2) : w.toInt < 0 ∨ 2 < w.toInt := by
  have a0 := lv_neT (k := 0) (a := 0) h0 rfl
  have a1 := lv_neT (k := 1) (a := 1) h1 rfl
  have a2 := lv_neT (k := 2) (a := 2) h2 rfl
  omega
theorem nI_ne_m1 {n : Nat} (h : n < 2 ^ 31) : ¬ nI n = -1 := fun e => nI_pos h (by rw [e]; decide)
theorem decm (j : Nat) : nI j + Int32.ofInt (-1) = nI j - 1 := by
  rw [Int32.sub_eq_add_neg]
  rfl
theorem nIz {n : Nat} (h : n < 2 ^ 31) (e : nI n = 0) : n = 0 := (nI_eq (b := 0) h (by decide)).mp e
theorem nI1 {n : Nat} (h : n < 2 ^ 31) (e : nI n = 1) : n = 1 := (nI_eq (b := 1) h (by decide)).mp e
theorem ok_gnum {u : US} (v : Int32) (hu : uOk u) : uOk (wG u (g_num (uG u) v)) := by
  unfold g_num
  by_cases h : v < 10
  · rw [if_pos h]; exact ok_gput _ hu
  · rw [if_neg h]; exact ok_gput (u := wG u (g_put (uG u) (i2c (48 + v / 10)))) _ (ok_gput _ hu)
theorem i_not_lt_of_le {x y : Int32} (h : x ≤ y) : ¬ y < x := Int32.not_lt.mpr h
theorem i_lt_of_not_le {x y : Int32} (h : ¬ x ≤ y) : y < x := Int32.not_le.mp h
theorem n_addOk_lt {u : US} {k : Int32} (hu : uOk u) (h : n_addOk (uN u) k = true) : (uN u).1 < 16 := by
  refine ad_lt (N := 16) hu.1 (by decide) (fun q => ?_)
  unfold n_addOk at h
  rw [if_pos (show (16 : Int32) ≤ nI (uN u).1 from q)] at h
  exact absurd h (by decide)
theorem ok_nadds {u : US} {k : Int32} (h : n_addOk (uN u) k = true) (hu : uOk u) : uOk (wN u (n_addS (uN u) k)) := by
  have := n_addOk_lt hu h
  exact ⟨by show (uN u).1 + 1 ≤ 16; omega, hu.2⟩
theorem r_vr_nI {r : RS} {i : Nat} (hr : r.1 ≤ 400) (hi : i < r.1) : r_vr r (nI i) = rV r i := by
  rw [r_vr, if_pos (hasIx_nI (by omega) hi), nI_clamp (by omega)]
theorem r_vrE {r : RS} {i : Nat} (hr : r.1 ≤ 400) (h : ∀ i, i < r.1 → ∃ v : Nat, v < 48 ∧ rV r i = nI v) (hi : i < r.1) : ∃ v : Nat, v < 48 ∧ r_vr r (nI i) = nI v := by
  rw [r_vr_nI hr hi]
  exact h i hi
theorem ok_df {u : US} (x : Int32) (hu : uOk u) : uOk (wC u (d_df u x).2) := by
  unfold d_df
  by_cases h : (300 : Int32) ≤ nI (uC u).1
  · rw [if_pos h]; exact hu
  · rw [if_neg h]
    exact ok_pp (u := d_df2 u x) _ _ _ (ok_pp (u := d_df1 u x) _ _ _ (ok_cadd _ _ hu))
theorem g_put_le {g : GS} (x : Int32) (h : g.1 ≤ 1648) : (g_put g x).1 ≤ 1648 := by
  unfold g_put
  by_cases h1 : (1648 : Int32) ≤ nI g.1
  · rw [if_pos h1]; exact h
  · rw [if_neg h1]
    have := ad_lt (N := 1648) h (by decide) h1
    show g.1 + 1 ≤ 1648
    omega
theorem g_num_le {g : GS} (v : Int32) (h : g.1 ≤ 1648) : (g_num g v).1 ≤ 1648 := by
  unfold g_num
  by_cases h1 : v < 10
  · rw [if_pos h1]; exact g_put_le _ h
  · rw [if_neg h1]; exact g_put_le _ (g_put_le _ h)
theorem g_runs_le (st en : Int64) : ∀ (n v : Nat) (f : Int32) (g : GS), g.1 ≤ 1648 → (g_runs st en n v f g).1 ≤ 1648 := by
  intro n
  induction n with
  | zero => intro v f g h; exact h
  | succ n ih =>
    intro v f g h
    rw [g_runs]
    by_cases h1 : s_hv st (nI v) = true
    · rw [if_pos h1]
      refine ih _ _ _ (g_num_le _ ?_)
      by_cases h2 : f = 0
      · rw [if_pos h2]; exact g_put_le _ h
      · rw [if_neg h2]; exact h
    · rw [if_neg h1]
      by_cases h2 : s_hv en (nI v) = true
      · rw [if_pos h2]; exact ih _ _ _ (g_num_le _ (g_put_le _ h))
      · rw [if_neg h2]; exact ih _ _ _ h
theorem d_prA_le {g : GS} (h : g.1 ≤ 1648) : (d_prA g).1 ≤ 1648 := by
  unfold d_prA
  by_cases h1 : 0 < nI g.1
  · rw [if_pos h1]; exact g_put_le _ (g_put_le _ h)
  · rw [if_neg h1]; exact h
theorem d_prB_le {g : GS} (pl : Int64) (h : g.1 ≤ 1648) : (d_prB g pl).1 ≤ 1648 := by
  unfold d_prB
  by_cases h1 : s_want pl = true
  · rw [if_pos h1]; exact h
  · rw [if_neg h1]; exact g_put_le _ h
theorem d_pr_le (u : US) (x : Int32) (pl : Int64) {g : GS} (h : g.1 ≤ 1648) : (d_pr u x pl g).1 ≤ 1648 := by
  rw [d_pr, g_putRuns]
  exact g_runs_le _ _ _ _ _ _ (g_put_le _ (g_put_le _ (d_prB_le _ (d_prA_le h))))
theorem ok_pr {u : US} (x : Int32) (pl : Int64) {g : GS} (hg : uOk (wG u g)) : uOk (wG u (d_pr u x pl g)) :=
  ⟨hg.1, hg.2.1, hg.2.2.1, hg.2.2.2.1, d_pr_le u x pl hg.2.2.2.2⟩
/-! THE CELLS of the class's object: the object, names, table, rows, clashes, choice, page -/
abbrev CT (cI cJ cC cZ : ClassId) : List (ClassId × FieldType) := [(cI, .int), (cJ, .long), (cC, .char), (cZ, .boolean)]
def CW (a : Nat → Nat) (cI cJ cC : ClassId) (u : US) : va_W := [
  (a 0, .inr (0, [.ref (a 1), .ref (a 3), .ref (a 6), .ref (a 12), .ref (a 17), .ref (a 18)])),
  (a 1, .inr (1, [.ref (a 2), .int (nI (uN u).1)])),
  (a 2, .inl (cJ, 16, .inr (.inl (uN u).2))),
  (a 3, .inr (2, [.ref (a 4), .ref (a 5), .int (nI (uT u).1)])),
  (a 4, .inl (cI, 600, .inl (uT u).2.1)),
  (a 5, .inl (cJ, 600, .inr (.inl (uT u).2.2))),
  (a 6, .inr (3, [.ref (a 7), .ref (a 8), .ref (a 9), .ref (a 10), .ref (a 11), .int (nI (uR u).1)])),
  (a 7, .inl (cI, 400, .inl (rN (uR u)))),
  (a 8, .inl (cI, 400, .inl (rV (uR u)))),
  (a 9, .inl (cI, 400, .inl (rO (uR u)))),
  (a 10, .inl (cJ, 400, .inr (.inl (rD (uR u))))),
  (a 11, .inl (cI, 400, .inl (rK (uR u)))),
  (a 12, .inr (4, [.ref (a 13), .ref (a 14), .ref (a 15), .ref (a 16), .int (nI (uC u).1)])),
  (a 13, .inl (cI, 300, .inl (cH (uC u)))),
  (a 14, .inl (cJ, 4800, .inr (.inl (cP (uC u))))),
  (a 15, .inl (cI, 300, .inl (cO (uC u)))),
  (a 16, .inl (cJ, 300, .inr (.inl (cR (uC u))))),
  (a 17, .inl (cJ, 16, .inr (.inl (uH u)))),
  (a 18, .inr (5, [.ref (a 19), .int (nI (uG u).1)])),
  (a 19, .inl (cC, 1648, .inl (uG u).2))]
def u0 : US := ((0, fun _ => 0), (0, fun _ => 0, fun _ => 0), (0, fun _ => 0, fun _ => 0, fun _ => 0, fun _ => 0, fun _ => 0), (0, fun _ => 0, fun _ => 0, fun _ => 0, fun _ => 0), fun _ => 0, (0, fun _ => 0))
def zc (h : Nat) (q : Nat → Nat) : Nat → Nat := fun i => match i with
  | 0 => h
  | i + 1 => q i
