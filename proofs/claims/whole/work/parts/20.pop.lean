/-! COUNTING BITS -/
theorem cnt_congr {P Q : Nat → Bool} : ∀ {n : Nat}, (∀ b, b < n → P b = Q b) → cntB P n = cntB Q n := by
  intro n
  induction n with
  | zero => intro _; rfl
  | succ n ih =>
    intro h
    rw [cntB, cntB, ih (fun b hb => h b (by omega)), h n (by omega)]
theorem cnt_add (P : Nat → Bool) (a : Nat) : ∀ b, cntB P (a + b) = cntB P a + cntB (fun i => P (a + i)) b := by
  intro b
  induction b with
  | zero => rfl
  | succ b ih =>
    show cntB P (a + b) + (if P (a + b) = true then 1 else 0) = cntB P a + (cntB (fun i => P (a + i)) b + (if P (a + b) = true then 1 else 0))
    rw [ih]
    omega
def lift (f : Nat → Nat) : Nat → Nat → Nat
  | 0, _ => 0
  | n + 1, m => f (m % 256) + 256 * lift f n (m / 256)
def rep (k : Nat) : Nat → Nat
  | 0 => 0
  | n + 1 => k + 256 * rep k n
theorem and_split {a b c d : Nat} (ha : a < 256) (hc : c < 256) : (a + 256 * b) &&& (c + 256 * d) = (a &&& c) + 256 * (b &&& d) := by
  have h1 : a + 256 * b = 2 ^ 8 * b + a := by omega
  have h2 : c + 256 * d = 2 ^ 8 * d + c := by omega
  have h3 : (a &&& c) + 256 * (b &&& d) = 2 ^ 8 * (b &&& d) + (a &&& c) := by omega
  have hac : a &&& c < 2 ^ 8 := Nat.and_lt_two_pow _ hc
  rw [h1, h2, h3]
  apply Nat.eq_of_testBit_eq
  intro i
  rw [Nat.testBit_and, Nat.testBit_two_pow_mul_add _ ha, Nat.testBit_two_pow_mul_add _ hc, Nat.testBit_two_pow_mul_add _ hac]
  by_cases h : i < 8
  · simp [h, Nat.testBit_and]
  · simp [h, Nat.testBit_and]
def p1 (a : Nat) : Nat := a - ((a / 2) &&& 85)
def p2 (a : Nat) : Nat := (a &&& 51) + ((a / 4) &&& 51)
def p3 (a : Nat) : Nat := (a + a / 16) % 16
theorem d1 : ∀ a, a < 256 → ∀ t, t < 2 → (a / 2 + 128 * t) &&& 85 = (a / 2) &&& 85 := by decide +kernel
theorem d2 : ∀ a, a < 256 → ∀ t, t < 4 → (a / 4 + 64 * t) &&& 51 = (a / 4) &&& 51 := by decide +kernel
theorem d3 : ∀ a, a < 256 → p2 (p1 a) % 16 ≤ 4 ∧ p2 (p1 a) / 16 ≤ 4 ∧ p1 a < 256 ∧ p2 (p1 a) < 256 := by decide +kernel
theorem d4 : ∀ a, a < 256 → p3 (p2 (p1 a)) = cntB (fun i => a.testBit i) 8 := by decide +kernel
theorem d5 : ∀ a, a < 256 → p2 a < 256 := by decide +kernel
theorem l1 : ∀ (n m : Nat), m < 256 ^ n → m - ((m / 2) &&& rep 85 n) = lift p1 n m := by
  intro n
  induction n with
  | zero =>
    intro m h
    have : m = 0 := by simpa using h
    subst this
    rfl
  | succ n ih =>
    intro m h
    have hq : m / 256 < 256 ^ n := by
      rw [Nat.pow_succ] at h
      omega
    have h1 := ih (m / 256) hq
    have e : m / 2 = (m % 256 / 2 + 128 * (m / 256 % 2)) + 256 * (m / 256 / 2) := by omega
    have e2 : (m / 2) &&& rep 85 (n + 1) = ((m % 256 / 2) &&& 85) + 256 * ((m / 256 / 2) &&& rep 85 n) := by
      rw [e]
      show _ &&& (85 + 256 * rep 85 n) = _
      rw [and_split (by omega) (by decide), d1 _ (Nat.mod_lt _ (by decide)) _ (Nat.mod_lt _ (by decide))]
    rw [e2]
    show _ = p1 (m % 256) + 256 * lift p1 n (m / 256)
    rw [← h1, p1]
    have h3 : (m % 256 / 2) &&& 85 ≤ m % 256 := Nat.le_trans Nat.and_le_left (Nat.div_le_self _ _)
    have h4 : (m / 256 / 2) &&& rep 85 n ≤ m / 256 := Nat.le_trans Nat.and_le_left (Nat.div_le_self _ _)
    omega
theorem l2 : ∀ (n m : Nat), (m &&& rep 51 n) + ((m / 4) &&& rep 51 n) = lift p2 n m := by
  intro n
  induction n with
  | zero =>
    intro m
    show (m &&& 0) + ((m / 4) &&& 0) = 0
    rw [Nat.and_zero, Nat.and_zero]
  | succ n ih =>
    intro m
    have h1 := ih (m / 256)
    have e0 : m = m % 256 + 256 * (m / 256) := by omega
    have e : m / 4 = (m % 256 / 4 + 64 * (m / 256 % 4)) + 256 * (m / 256 / 4) := by omega
    have e2 : (m / 4) &&& rep 51 (n + 1) = ((m % 256 / 4) &&& 51) + 256 * ((m / 256 / 4) &&& rep 51 n) := by
      rw [e]
      show _ &&& (51 + 256 * rep 51 n) = _
      rw [and_split (by omega) (by decide), d2 _ (Nat.mod_lt _ (by decide)) _ (Nat.mod_lt _ (by decide))]
    have e3 : m &&& rep 51 (n + 1) = ((m % 256) &&& 51) + 256 * ((m / 256) &&& rep 51 n) := by
      conv => lhs; rw [e0]
      show _ &&& (51 + 256 * rep 51 n) = _
      rw [and_split (by omega) (by decide)]
    rw [e2, e3]
    show _ = p2 (m % 256) + 256 * lift p2 n (m / 256)
    rw [← h1, p2]
    omega
theorem l3 (g : Nat → Nat) (hg : ∀ a, a < 256 → g a % 16 ≤ 4 ∧ g a / 16 ≤ 4 ∧ g a < 256) : ∀ (n m : Nat), (lift g n m + lift g n m / 16) &&& rep 15 n = lift (fun a => p3 (g a)) n m ∧ lift g n m % 16 ≤ 4 := by
  intro n
  induction n with
  | zero =>
    intro m
    exact ⟨Nat.and_zero _, by show 0 % 16 ≤ 4; decide⟩
  | succ n ih =>
    intro m
    obtain ⟨h1, h2⟩ := ih (m / 256)
    obtain ⟨g1, g2, g3⟩ := hg (m % 256) (Nat.mod_lt _ (by decide))
    show (g (m % 256) + 256 * lift g n (m / 256) + (g (m % 256) + 256 * lift g n (m / 256)) / 16) &&& (15 + 256 * rep 15 n) = p3 (g (m % 256)) + 256 * lift (fun a => p3 (g a)) n (m / 256) ∧ (g (m % 256) + 256 * lift g n (m / 256)) % 16 ≤ 4
    generalize g (m % 256) = a at g1 g2 g3 ⊢
    generalize hq : lift g n (m / 256) = q at h1 h2 ⊢
    refine ⟨?_, by omega⟩
    have e : a + 256 * q + (a + 256 * q) / 16 = (a + a / 16 + 16 * (q % 16)) + 256 * (q + q / 16) := by omega
    rw [e, and_split (by omega) (by decide), h1]
    have e2 : (a + a / 16 + 16 * (q % 16)) &&& 15 = p3 a := by
      rw [show (15 : Nat) = 2 ^ 4 - 1 from rfl, Nat.and_two_pow_sub_one_eq_mod, p3]
      omega
    rw [e2]
theorem lift_comp (f g : Nat → Nat) (hg : ∀ a, a < 256 → g a < 256) : ∀ (n m : Nat), lift f n (lift g n m) = lift (fun a => f (g a)) n m := by
  intro n
  induction n with
  | zero => intro m; rfl
  | succ n ih =>
    intro m
    have h := hg (m % 256) (Nat.mod_lt _ (by decide))
    show f ((g (m % 256) + 256 * lift g n (m / 256)) % 256) + 256 * lift f n ((g (m % 256) + 256 * lift g n (m / 256)) / 256) = f (g (m % 256)) + 256 * lift (fun a => f (g a)) n (m / 256)
    rw [show (g (m % 256) + 256 * lift g n (m / 256)) % 256 = g (m % 256) by omega, show (g (m % 256) + 256 * lift g n (m / 256)) / 256 = lift g n (m / 256) by omega, ih]
theorem lift_congr {f g : Nat → Nat} (h : ∀ a, a < 256 → f a = g a) : ∀ (n m : Nat), lift f n m = lift g n m := by
  intro n
  induction n with
  | zero => intro m; rfl
  | succ n ih =>
    intro m
    show f _ + 256 * lift f n _ = g _ + 256 * lift g n _
    rw [h _ (Nat.mod_lt _ (by decide)), ih]
def pc8 (a : Nat) : Nat := cntB (fun i => a.testBit i) 8
def sumB : Nat → Nat → Nat
  | 0, _ => 0
  | n + 1, m => pc8 (m % 256) + sumB n (m / 256)
theorem sum_cnt : ∀ (n m : Nat), sumB n m = cntB (fun i => m.testBit i) (8 * n) := by
  intro n
  induction n with
  | zero => intro m; rfl
  | succ n ih =>
    intro m
    rw [show 8 * (n + 1) = 8 + 8 * n by omega, cnt_add]
    show pc8 (m % 256) + sumB n (m / 256) = _
    rw [ih, pc8]
    congr 1
    · apply cnt_congr
      intro b hb
      rw [show (256 : Nat) = 2 ^ 8 from rfl, Nat.testBit_mod_two_pow]
      simp [hb]
    · apply cnt_congr
      intro b _
      rw [show (256 : Nat) = 2 ^ 8 from rfl, Nat.testBit_div_two_pow]
      congr 1
      omega
theorem pc8_le (a : Nat) : pc8 a ≤ 8 := cnt_le _ _
