/-! COUNTING BITS -/
theorem cnt_congr {P Q : Nat → Bool} : ∀ {n : Nat}, (∀ b, b < n → P b = Q b) → cntB P n = cntB Q n := by
  intro n
  induction n with
  | zero => intro _; rfl
  | succ n ih =>
    intro h
    rw [cntB, cntB, ih (fun b hb => h b (by omega)), h n (by omega)]
theorem cnt_add (P : Nat → Bool) (a : Nat) : ∀ b, cntB P (a + b) = cntB P a + cntB (fun i => P (a + i)) b := by
  intro b
  induction b with
  | zero => rfl
  | succ b ih =>
    show cntB P (a + b) + (if P (a + b) = true then 1 else 0) = cntB P a + (cntB (fun i => P (a + i)) b + (if P (a + b) = true then 1 else 0))
    rw [ih]
    omega
def lift (f : Nat → Nat) : Nat → Nat → Nat
  | 0, _ => 0
  | n + 1, m => f (m % 256) + 256 * lift f n (m / 256)
def rep (k : Nat) : Nat → Nat
  | 0 => 0
  | n + 1 => k + 256 * rep k n
theorem and_split {a b c d : Nat} (ha : a < 256) (hc : c < 256) : (a + 256 * b) &&& (c + 256 * d) = (a &&& c) + 256 * (b &&& d) := by
  have h1 : a + 256 * b = 2 ^ 8 * b + a := by omega
  have h2 : c + 256 * d = 2 ^ 8 * d + c := by omega
  have h3 : (a &&& c) + 256 * (b &&& d) = 2 ^ 8 * (b &&& d) + (a &&& c) := by omega
  have hac : a &&& c < 2 ^ 8 := Nat.and_lt_two_pow _ hc
  rw [h1, h2, h3]
  apply Nat.eq_of_testBit_eq
  intro i
  rw [Nat.testBit_and, Nat.testBit_two_pow_mul_add _ ha, Nat.testBit_two_pow_mul_add _ hc, Nat.testBit_two_pow_mul_add _ hac]
  by_cases h : i < 8
  · simp [h, Nat.testBit_and]
  · simp [h, Nat.testBit_and]
def p1 (a : Nat) : Nat := a - ((a / 2) &&& 85)
def p2 (a : Nat) : Nat := (a &&& 51) + ((a / 4) &&& 51)
def p3 (a : Nat) : Nat := (a + a / 16) % 16
theorem d1 : ∀ a, a < 256 → ∀ t, t < 2 → (a / 2 + 128 * t) &&& 85 = (a / 2) &&& 85 := by decide +kernel
theorem d2 : ∀ a, a < 256 → ∀ t, t < 4 → (a / 4 + 64 * t) &&& 51 = (a / 4) &&& 51 := by decide +kernel
theorem d3 : ∀ a, a < 256 → p2 (p1 a) % 16 ≤ 4 ∧ p2 (p1 a) / 16 ≤ 4 ∧ p1 a < 256 ∧ p2 (p1 a) < 256 := by decide +kernel
theorem d4 : ∀ a, a < 256 → p3 (p2 (p1 a)) = cntB (fun i => a.testBit i) 8 := by decide +kernel
theorem d5 : ∀ a, a < 256 → p2 a < 256 := by decide +kernel
theorem l1 : ∀ (n m : Nat), m < 256 ^ n → m - ((m / 2) &&& rep 85 n) = lift p1 n m := by
  intro n
  induction n with
  | zero =>
    intro m h
    have : m = 0 := by simpa using h
    subst this
    rfl
  | succ n ih =>
    intro m h
    have hq : m / 256 < 256 ^ n := by
      rw [Nat.pow_succ] at h
      omega
    have h1 := ih (m / 256) hq
    have e : m / 2 = (m % 256 / 2 + 128 * (m / 256 % 2)) + 256 * (m / 256 / 2) := by omega
    have e2 : (m / 2) &&& rep 85 (n + 1) = ((m % 256 / 2) &&& 85) + 256 * ((m / 256 / 2) &&& rep 85 n) := by
      rw [e]
      show _ &&& (85 + 256 * rep 85 n) = _
      rw [and_split (by omega) (by decide), d1 _ (Nat.mod_lt _ (by decide)) _ (Nat.mod_lt _ (by decide))]
    rw [e2]
    show _ = p1 (m % 256) + 256 * lift p1 n (m / 256)
    rw [← h1, p1]
    have h3 : (m % 256 / 2) &&& 85 ≤ m % 256 := Nat.le_trans Nat.and_le_left (Nat.div_le_self _ _)
    have h4 : (m / 256 / 2) &&& rep 85 n ≤ m / 256 := Nat.le_trans Nat.and_le_left (Nat.div_le_self _ _)
    omega
theorem l2 : ∀ (n m : Nat), (m &&& rep 51 n) + ((m / 4) &&& rep 51 n) = lift p2 n m := by
  intro n
  induction n with
  | zero =>
    intro m
    show (m &&& 0) + ((m / 4) &&& 0) = 0
    rw [Nat.and_zero, Nat.and_zero]
  | succ n ih =>
    intro m
    have h1 := ih (m / 256)
    have e0 : m = m % 256 + 256 * (m / 256) := by omega
    have e : m / 4 = (m % 256 / 4 + 64 * (m / 256 % 4)) + 256 * (m / 256 / 4) := by omega
    have e2 : (m / 4) &&& rep 51 (n + 1) = ((m % 256 / 4) &&& 51) + 256 * ((m / 256 / 4) &&& rep 51 n) := by
      rw [e]
      show _ &&& (51 + 256 * rep 51 n) = _
      rw [and_split (by omega) (by decide), d2 _ (Nat.mod_lt _ (by decide)) _ (Nat.mod_lt _ (by decide))]
    have e3 : m &&& rep 51 (n + 1) = ((m % 256) &&& 51) + 256 * ((m / 256) &&& rep 51 n) := by
      conv => lhs; rw [e0]
      show _ &&& (51 + 256 * rep 51 n) = _
      rw [and_split (by omega) (by decide)]
    rw [e2, e3]
    show _ = p2 (m % 256) + 256 * lift p2 n (m / 256)
    rw [← h1, p2]
    omega
theorem l3 (g : Nat → Nat) (hg : ∀ a, a < 256 → g a % 16 ≤ 4 ∧ g a / 16 ≤ 4 ∧ g a < 256) : ∀ (n m : Nat), (lift g n m + lift g n m / 16) &&& rep 15 n = lift (fun a => p3 (g a)) n m ∧ lift g n m % 16 ≤ 4 := by
  intro n
  induction n with
  | zero =>
    intro m
    exact ⟨Nat.and_zero _, by show 0 % 16 ≤ 4; decide⟩
  | succ n ih =>
    intro m
    obtain ⟨h1, h2⟩ := ih (m / 256)
    obtain ⟨g1, g2, g3⟩ := hg (m % 256) (Nat.mod_lt _ (by decide))
    show (g (m % 256) + 256 * lift g n (m / 256) + (g (m % 256) + 256 * lift g n (m / 256)) / 16) &&& (15 + 256 * rep 15 n) = p3 (g (m % 256)) + 256 * lift (fun a => p3 (g a)) n (m / 256) ∧ (g (m % 256) + 256 * lift g n (m / 256)) % 16 ≤ 4
    generalize g (m % 256) = a at g1 g2 g3 ⊢
    generalize hq : lift g n (m / 256) = q at h1 h2 ⊢
    refine ⟨?_, by omega⟩
    have e : a + 256 * q + (a + 256 * q) / 16 = (a + a / 16 + 16 * (q % 16)) + 256 * (q + q / 16) := by omega
    rw [e, and_split (by omega) (by decide), h1]
    have e2 : (a + a / 16 + 16 * (q % 16)) &&& 15 = p3 a := by
      rw [show (15 : Nat) = 2 ^ 4 - 1 from rfl, Nat.and_two_pow_sub_one_eq_mod, p3]
      omega
    rw [e2]
theorem lift_comp (f g : Nat → Nat) (hg : ∀ a, a < 256 → g a < 256) : ∀ (n m : Nat), lift f n (lift g n m) = lift (fun a => f (g a)) n m := by
  intro n
  induction n with
  | zero => intro m; rfl
  | succ n ih =>
    intro m
    have h := hg (m % 256) (Nat.mod_lt _ (by decide))
    show f ((g (m % 256) + 256 * lift g n (m / 256)) % 256) + 256 * lift f n ((g (m % 256) + 256 * lift g n (m / 256)) / 256) = f (g (m % 256)) + 256 * lift (fun a => f (g a)) n (m / 256)
    rw [show (g (m % 256) + 256 * lift g n (m / 256)) % 256 = g (m % 256) by omega, show (g (m % 256) + 256 * lift g n (m / 256)) / 256 = lift g n (m / 256) by omega, ih]
theorem lift_congr {f g : Nat → Nat} (h : ∀ a, a < 256 → f a = g a) : ∀ (n m : Nat), lift f n m = lift g n m := by
  intro n
  induction n with
  | zero => intro m; rfl
  | succ n ih =>
    intro m
    show f _ + 256 * lift f n _ = g _ + 256 * lift g n _
    rw [h _ (Nat.mod_lt _ (by decide)), ih]
def pc8 (a : Nat) : Nat := cntB (fun i => a.testBit i) 8
def sumB : Nat → Nat → Nat
  | 0, _ => 0
  | n + 1, m => pc8 (m % 256) + sumB n (m / 256)
theorem sum_cnt : ∀ (n m : Nat), sumB n m = cntB (fun i => m.testBit i) (8 * n) := by
  intro n
  induction n with
  | zero => intro m; rfl
  | succ n ih =>
    intro m
    rw [show 8 * (n + 1) = 8 + 8 * n by omega, cnt_add]
    show pc8 (m % 256) + sumB n (m / 256) = _
    rw [ih, pc8]
    congr 1
    · apply cnt_congr
      intro b hb
      rw [show (256 : Nat) = 2 ^ 8 from rfl, Nat.testBit_mod_two_pow]
      simp [hb]
    · apply cnt_congr
      intro b _
      rw [show (256 : Nat) = 2 ^ 8 from rfl, Nat.testBit_div_two_pow]
      congr 1
      omega
theorem pc8_le (a : Nat) : pc8 a ≤ 8 := cnt_le _ _
theorem pcS {c0 c1 c2 c3 c4 c5 c6 c7 y : Nat} (k0 : c0 ≤ 8) (k1 : c1 ≤ 8) (k2 : c2 ≤ 8) (k3 : c3 ≤ 8) (k4 : c4 ≤ 8) (k5 : c5 ≤ 8) (k6 : c6 ≤ 8) (k7 : c7 ≤ 8) (hy : y = c0 + 256 * (c1 + 256 * (c2 + 256 * (c3 + 256 * (c4 + 256 * (c5 + 256 * (c6 + 256 * c7))))))) :
    ((y + y / 256 + (y + y / 256) / 65536) + (y + y / 256 + (y + y / 256) / 65536) / 4294967296) % 128 = c0 + (c1 + (c2 + (c3 + (c4 + (c5 + (c6 + c7)))))) ∧ y < 2 ^ 60 ∧ y + y / 256 + (y + y / 256) / 65536 + (y + y / 256 + (y + y / 256) / 65536) / 4294967296 < 2 ^ 64 := by
  have h1 : y / 256 = c1 + 256 * (c2 + 256 * (c3 + 256 * (c4 + 256 * (c5 + 256 * (c6 + 256 * c7))))) := by omega
  obtain ⟨R1, hR1⟩ : ∃ R, R = (c4 + c5) + 256 * ((c5 + c6) + 256 * ((c6 + c7) + 256 * c7)) := ⟨_, rfl⟩
  obtain ⟨R0, hR0⟩ : ∃ R, R = (c2 + c3) + 256 * (c3 + c4) + 65536 * R1 := ⟨_, rfl⟩
  have h2 : y + y / 256 = (c0 + c1) + 256 * (c1 + c2) + 65536 * R0 := by omega
  have h3 : (y + y / 256) / 65536 = R0 := by omega
  obtain ⟨S0, hS0⟩ : ∃ S, S = (c0 + c1) + (c2 + c3) + 256 * ((c1 + c2) + (c3 + c4)) := ⟨_, rfl⟩
  have h4 : y + y / 256 + (y + y / 256) / 65536 = S0 + 65536 * (R0 + R1) := by omega
  obtain ⟨U0, hU0⟩ : ∃ U, U = (c6 + c7) + 256 * c7 := ⟨_, rfl⟩
  have h5 : R1 = (c4 + c5) + 256 * (c5 + c6) + 65536 * U0 := by omega
  have h6 : R0 + R1 = ((c2 + c3) + (c4 + c5) + 256 * ((c3 + c4) + (c5 + c6))) + 65536 * (R1 + U0) := by omega
  have h7 : (y + y / 256 + (y + y / 256) / 65536) / 4294967296 = R1 + U0 := by omega
  refine ⟨?_, ?_, ?_⟩
  · rw [h4] at h7 ⊢
    rw [h7]
    omega
  · omega
  · rw [h4] at h7 ⊢
    rw [h7]
    omega
theorem pcN (m : Nat) : ((lift pc8 8 m + lift pc8 8 m / 256 + (lift pc8 8 m + lift pc8 8 m / 256) / 65536) + (lift pc8 8 m + lift pc8 8 m / 256 + (lift pc8 8 m + lift pc8 8 m / 256) / 65536) / 4294967296) % 128 = sumB 8 m ∧ lift pc8 8 m < 2 ^ 60 ∧ lift pc8 8 m + lift pc8 8 m / 256 + (lift pc8 8 m + lift pc8 8 m / 256) / 65536 + (lift pc8 8 m + lift pc8 8 m / 256 + (lift pc8 8 m + lift pc8 8 m / 256) / 65536) / 4294967296 < 2 ^ 64 := by
  have h := pcS (pc8_le (m % 256)) (pc8_le (m / 256 % 256)) (pc8_le (m / 256 / 256 % 256)) (pc8_le (m / 256 / 256 / 256 % 256)) (pc8_le (m / 256 / 256 / 256 / 256 % 256)) (pc8_le (m / 256 / 256 / 256 / 256 / 256 % 256)) (pc8_le (m / 256 / 256 / 256 / 256 / 256 / 256 % 256)) (pc8_le (m / 256 / 256 / 256 / 256 / 256 / 256 / 256 % 256)) (y := lift pc8 8 m) rfl
  exact h
-- from Int64 to Nat
def uL (x : Int64) : Nat := x.toBitVec.toNat
theorem uL_lt (x : Int64) : uL x < 2 ^ 64 := x.toBitVec.isLt
theorem uL_and (x y : Int64) : uL (x &&& y) = uL x &&& uL y := by
  unfold uL
  rw [Int64.toBitVec_and, BitVec.toNat_and]
theorem uL_add (x y : Int64) : uL (x + y) = (uL x + uL y) % 2 ^ 64 := by
  unfold uL
  rw [Int64.toBitVec_add, BitVec.toNat_add]
theorem uL_sub {x y : Int64} (h : uL y ≤ uL x) : uL (x - y) = uL x - uL y := by
  have hx := uL_lt x
  unfold uL at *
  rw [Int64.toBitVec_sub, BitVec.toNat_sub]
  omega
theorem uL_sh (x : Int64) {k : Nat} (hk : k < 64) : uL (sh64 x (nI k)) = uL x / 2 ^ k := by
  unfold uL sh64
  show (x.toUInt64 >>> ((nI k).toInt64.toUInt64 &&& Int64.toUInt64 63)).toNat = _
  rw [UInt64.toNat_shiftRight, sh_v k hk, Nat.mod_eq_of_lt hk, Nat.shiftRight_eq_div_pow]
  rfl
theorem cm1 : uL 6148914691236517205 = rep 85 8 := by decide +kernel
theorem cm2 : uL 3689348814741910323 = rep 51 8 := by decide +kernel
theorem cm3 : uL 1085102592571150095 = rep 15 8 := by decide +kernel
theorem uL_1 (x : Int64) : uL (pcL1 x) = lift p1 8 (uL x) := by
  have h := l1 8 (uL x) (uL_lt x)
  have e : uL (sh64 x 1 &&& 6148914691236517205) = (uL x / 2) &&& rep 85 8 := by
    rw [uL_and, cm1, show (1 : Int32) = nI 1 from rfl, uL_sh x (by decide)]
    rfl
  have hle : uL (sh64 x 1 &&& 6148914691236517205) ≤ uL x := by
    rw [e]
    exact Nat.le_trans Nat.and_le_left (Nat.div_le_self _ _)
  rw [pcL1, uL_sub hle, e]
  exact h
theorem rep_lt : ∀ {k : Nat}, k < 256 → ∀ n, rep k n < 256 ^ n := by
  intro k hk n
  induction n with
  | zero => decide
  | succ n ih =>
    show k + 256 * rep k n < 256 ^ (n + 1)
    rw [Nat.pow_succ]
    omega
theorem uL_2 (x : Int64) : uL (pcL2 x) = lift p2 8 (uL x) := by
  have h := l2 8 (uL x)
  have e : uL (sh64 x 2 &&& 3689348814741910323) = (uL x / 4) &&& rep 51 8 := by
    rw [uL_and, cm2, show (2 : Int32) = nI 2 from rfl, uL_sh x (by decide)]
    rfl
  have e1 : uL (x &&& 3689348814741910323) = uL x &&& rep 51 8 := by rw [uL_and, cm2]
  have b1 : (uL x / 4) &&& rep 51 8 ≤ rep 51 8 := Nat.and_le_right
  have b2 : uL x &&& rep 51 8 ≤ rep 51 8 := Nat.and_le_right
  have b3 : rep 51 8 = 3689348814741910323 := by decide +kernel
  rw [pcL2, uL_add, e, e1, h, Nat.mod_eq_of_lt]
  rw [← h]
  omega
theorem uL_3 {x : Int64} (hx : uL x < 2 ^ 63) : uL (pcL3 x) = (uL x + uL x / 16) &&& rep 15 8 := by
  rw [pcL3, uL_and, cm3, uL_add, show (4 : Int32) = nI 4 from rfl, uL_sh x (by decide), Nat.mod_eq_of_lt (by omega)]
  rfl
theorem lift_lt {f : Nat → Nat} {k : Nat} (h : ∀ a, a < 256 → f a ≤ k) (hk : k < 256) : ∀ n m, lift f n m ≤ rep k n := by
  intro n
  induction n with
  | zero => intro m; exact Nat.le_refl _
  | succ n ih =>
    intro m
    have := h (m % 256) (Nat.mod_lt _ (by decide))
    have := ih (m / 256)
    show f _ + 256 * lift f n _ ≤ k + 256 * rep k n
    omega
theorem pcL_cnt (x : Int64) : pcL x = nI (cntB (fun b => (uL x).testBit b) 64) := by
  have e1 := uL_1 x
  have e2 : uL (pcL2 (pcL1 x)) = lift (fun a => p2 (p1 a)) 8 (uL x) := by
    rw [uL_2, e1, lift_comp _ _ (fun a ha => (d3 a ha).2.2.1)]
  have b68 : lift (fun a => p2 (p1 a)) 8 (uL x) ≤ rep 68 8 := lift_lt (fun a ha => by have := d3 a ha; omega) (by decide) _ _
  have b68' : rep 68 8 = 4919131752989213764 := by decide +kernel
  have e3 : uL (pcL3 (pcL2 (pcL1 x))) = lift pc8 8 (uL x) := by
    rw [uL_3 (by rw [e2]; omega), e2, (l3 (fun a => p2 (p1 a)) (fun a ha => ⟨(d3 a ha).1, (d3 a ha).2.1, (d3 a ha).2.2.2⟩) 8 (uL x)).1]
    exact lift_congr (fun a ha => d4 a ha) _ _
  obtain ⟨h1, h2, h3⟩ := pcN (uL x)
  have e4 : uL (pcL4 (pcL3 (pcL2 (pcL1 x)))) = lift pc8 8 (uL x) + lift pc8 8 (uL x) / 256 := by
    rw [pcL4, uL_add, show (8 : Int32) = nI 8 from rfl, uL_sh _ (by decide), e3]
    show (_ + _ / 256) % _ = _
    rw [Nat.mod_eq_of_lt (by omega)]
  have e5 : uL (pcL5 (pcL4 (pcL3 (pcL2 (pcL1 x))))) = lift pc8 8 (uL x) + lift pc8 8 (uL x) / 256 + (lift pc8 8 (uL x) + lift pc8 8 (uL x) / 256) / 65536 := by
    rw [pcL5, uL_add, show (16 : Int32) = nI 16 from rfl, uL_sh _ (by decide), e4]
    show (_ + _ / 65536) % _ = _
    rw [Nat.mod_eq_of_lt (by omega)]
  have e6 : uL (pcL6 (pcL5 (pcL4 (pcL3 (pcL2 (pcL1 x)))))) = lift pc8 8 (uL x) + lift pc8 8 (uL x) / 256 + (lift pc8 8 (uL x) + lift pc8 8 (uL x) / 256) / 65536 + (lift pc8 8 (uL x) + lift pc8 8 (uL x) / 256 + (lift pc8 8 (uL x) + lift pc8 8 (uL x) / 256) / 65536) / 4294967296 := by
    rw [pcL6, uL_add, show (32 : Int32) = nI 32 from rfl, uL_sh _ (by decide), e5]
    show (_ + _ / 4294967296) % _ = _
    rw [Nat.mod_eq_of_lt h3]
  have e7 : pcL x = nI (uL (pcL6 (pcL5 (pcL4 (pcL3 (pcL2 (pcL1 x)))))) % 128) := by
    rw [pcL]
    generalize pcL6 (pcL5 (pcL4 (pcL3 (pcL2 (pcL1 x))))) = z
    have hz : z.toInt32 = nI (uL z) := by
      apply Int32.toBitVec_inj.1
      apply BitVec.eq_of_toNat_eq
      show (z.toBitVec.signExtend 32).toNat = (BitVec.ofNat 32 z.toBitVec.toNat).toNat
      rw [BitVec.signExtend_eq_setWidth_of_le _ (by decide), BitVec.toNat_setWidth, BitVec.toNat_ofNat]
    rw [hz]
    show nI (uL z) &&& nI 127 = _
    rw [nx_and, show (127 : Nat) = 2 ^ 7 - 1 from rfl, Nat.and_two_pow_sub_one_eq_mod]
  rw [e7, e6, h1, sum_cnt]
theorem uL_bq (x : Int64) (b : Nat) : (uL x).testBit b = bq x b := rfl
theorem pcL_bq (x : Int64) : pcL x = nI (cntB (bq x) 64) := pcL_cnt x
