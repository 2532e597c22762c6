theorem lift_lt {f : Nat → Nat} {k : Nat} (h : ∀ a, a < 256 → f a ≤ k) (hk : k < 256) : ∀ n m, lift f n m ≤ rep k n := by
  intro n
  induction n with
  | zero => intro m; exact Nat.le_refl _
  | succ n ih =>
    intro m
    have := h (m % 256) (Nat.mod_lt _ (by decide))
    have := ih (m / 256)
    show f _ + 256 * lift f n _ ≤ k + 256 * rep k n
    omega
theorem pcB (m : Nat) : lift pc8 8 m ≤ 578721382704613384 := by
  have h := lift_lt (f := pc8) (k := 8) (fun a _ => pc8_le a) (by decide) 8 m
  have e : rep 8 8 = 578721382704613384 := by decide +kernel
  rw [e] at h
  exact h
theorem sum3 {y a b c : Nat} (hy : y ≤ 578721382704613384) (ha : a ≤ y) (hb : b ≤ y + a) (hc : c ≤ y + a + b) : y + a < 18446744073709551616 ∧ y + a + b < 18446744073709551616 ∧ y + a + b + c < 18446744073709551616 := by omega
theorem pcN (m : Nat) : ((lift pc8 8 m + lift pc8 8 m / 256 + (lift pc8 8 m + lift pc8 8 m / 256) / 65536) + (lift pc8 8 m + lift pc8 8 m / 256 + (lift pc8 8 m + lift pc8 8 m / 256) / 65536) / 4294967296) % 128 = sumB 8 m :=
  pcS (pc8_le (m % 256)) (pc8_le (m / 256 % 256)) (pc8_le (m / 256 / 256 % 256)) (pc8_le (m / 256 / 256 / 256 % 256)) (pc8_le (m / 256 / 256 / 256 / 256 % 256)) (pc8_le (m / 256 / 256 / 256 / 256 / 256 % 256)) (pc8_le (m / 256 / 256 / 256 / 256 / 256 / 256 % 256)) (pc8_le (m / 256 / 256 / 256 / 256 / 256 / 256 / 256 % 256)) (y := lift pc8 8 m) rfl
-- from Int64 to Nat
def uL (x : Int64) : Nat := x.toBitVec.toNat
theorem uL_lt (x : Int64) : uL x < 2 ^ 64 := x.toBitVec.isLt
theorem uL_and (x y : Int64) : uL (x &&& y) = uL x &&& uL y := by
  unfold uL
  rw [Int64.toBitVec_and, BitVec.toNat_and]
theorem uL_add (x y : Int64) : uL (x + y) = (uL x + uL y) % 2 ^ 64 := by
  unfold uL
  rw [Int64.toBitVec_add, BitVec.toNat_add]
theorem uL_sub {x y : Int64} (h : uL y ≤ uL x) : uL (x - y) = uL x - uL y := by
  have hx := uL_lt x
  unfold uL at *
  rw [Int64.toBitVec_sub, BitVec.toNat_sub]
  omega
theorem uL_sh (x : Int64) {k : Nat} (hk : k < 64) : uL (sh64 x (nI k)) = uL x / 2 ^ k := by
  unfold uL sh64
  show (x.toUInt64 >>> ((nI k).toInt64.toUInt64 &&& Int64.toUInt64 63)).toNat = _
  rw [UInt64.toNat_shiftRight, sh_v k hk, Nat.mod_eq_of_lt hk, Nat.shiftRight_eq_div_pow]
  rfl
theorem cm1 : uL 6148914691236517205 = rep 85 8 := by decide +kernel
theorem cm2 : uL 3689348814741910323 = rep 51 8 := by decide +kernel
theorem cm3 : uL 1085102592571150095 = rep 15 8 := by decide +kernel
theorem uL_1 (x : Int64) : uL (pcL1 x) = lift p1 8 (uL x) := by
  have h := l1 8 (uL x) (uL_lt x)
  have e : uL (sh64 x 1 &&& 6148914691236517205) = (uL x / 2) &&& rep 85 8 := by
    rw [uL_and, cm1, show (1 : Int32) = nI 1 from rfl, uL_sh x (by decide)]
  have hle : uL (sh64 x 1 &&& 6148914691236517205) ≤ uL x := by
    rw [e]
    exact Nat.le_trans Nat.and_le_left (Nat.div_le_self _ _)
  rw [pcL1, uL_sub hle, e]
  exact h
theorem uL_2 (x : Int64) : uL (pcL2 x) = lift p2 8 (uL x) := by
  have h := l2 8 (uL x)
  have e : uL (sh64 x 2 &&& 3689348814741910323) = (uL x / 4) &&& rep 51 8 := by
    rw [uL_and, cm2, show (2 : Int32) = nI 2 from rfl, uL_sh x (by decide)]
  have e1 : uL (x &&& 3689348814741910323) = uL x &&& rep 51 8 := by rw [uL_and, cm2]
  have b1 : (uL x / 4) &&& rep 51 8 ≤ rep 51 8 := Nat.and_le_right
  have b2 : uL x &&& rep 51 8 ≤ rep 51 8 := Nat.and_le_right
  have b3 : rep 51 8 = 3689348814741910323 := by decide +kernel
  rw [pcL2, uL_add, e, e1, h, Nat.mod_eq_of_lt]
  rw [← h]
  omega
theorem uL_3 {x : Int64} (hx : uL x < 2 ^ 63) : uL (pcL3 x) = (uL x + uL x / 16) &&& rep 15 8 := by
  rw [pcL3, uL_and, cm3, uL_add, show (4 : Int32) = nI 4 from rfl, uL_sh x (by decide), Nat.mod_eq_of_lt (by omega)]
theorem pcL_cnt (x : Int64) : pcL x = nI (cntB (fun b => (uL x).testBit b) 64) := by
  have e1 := uL_1 x
  have e2 : uL (pcL2 (pcL1 x)) = lift (fun a => p2 (p1 a)) 8 (uL x) := by
    rw [uL_2, e1, lift_comp _ _ (fun a ha => (d3 a ha).2.2.1)]
  have b68 : lift (fun a => p2 (p1 a)) 8 (uL x) ≤ rep 68 8 := lift_lt (fun a ha => by have := d3 a ha; omega) (by decide) _ _
  have b68' : rep 68 8 = 4919131752989213764 := by decide +kernel
  have e3 : uL (pcL3 (pcL2 (pcL1 x))) = lift pc8 8 (uL x) := by
    rw [uL_3 (by rw [e2]; omega), e2, (l3 (fun a => p2 (p1 a)) (fun a ha => ⟨(d3 a ha).1, (d3 a ha).2.1, (d3 a ha).2.2.2⟩) 8 (uL x)).1]
    exact lift_congr (fun a ha => d4 a ha) _ _
  have h1 := pcN (uL x)
  have hB := pcB (uL x)
  generalize lift pc8 8 (uL x) = y at e3 h1 hB
  obtain ⟨s1, s2, s3⟩ := sum3 hB (Nat.div_le_self y 256) (Nat.div_le_self (y + y / 256) 65536) (Nat.div_le_self (y + y / 256 + (y + y / 256) / 65536) 4294967296)
  have e4 : uL (pcL4 (pcL3 (pcL2 (pcL1 x)))) = y + y / 256 := by
    rw [pcL4, uL_add, show (8 : Int32) = nI 8 from rfl, uL_sh _ (by decide), e3]
    exact Nat.mod_eq_of_lt s1
  have e5 : uL (pcL5 (pcL4 (pcL3 (pcL2 (pcL1 x))))) = y + y / 256 + (y + y / 256) / 65536 := by
    rw [pcL5, uL_add, show (16 : Int32) = nI 16 from rfl, uL_sh _ (by decide), e4]
    exact Nat.mod_eq_of_lt s2
  have e6 : uL (pcL6 (pcL5 (pcL4 (pcL3 (pcL2 (pcL1 x)))))) = y + y / 256 + (y + y / 256) / 65536 + (y + y / 256 + (y + y / 256) / 65536) / 4294967296 := by
    rw [pcL6, uL_add, show (32 : Int32) = nI 32 from rfl, uL_sh _ (by decide), e5]
    exact Nat.mod_eq_of_lt s3
  have e7 : pcL x = nI (uL (pcL6 (pcL5 (pcL4 (pcL3 (pcL2 (pcL1 x)))))) % 128) := by
    rw [pcL]
    generalize pcL6 (pcL5 (pcL4 (pcL3 (pcL2 (pcL1 x))))) = z
    have hz : z.toInt32 = nI (uL z) := by
      apply Int32.toBitVec_inj.1
      apply BitVec.eq_of_toNat_eq
      show (z.toBitVec.signExtend 32).toNat = (BitVec.ofNat 32 z.toBitVec.toNat).toNat
      rw [BitVec.signExtend_eq_setWidth_of_le _ (by decide), BitVec.toNat_setWidth, BitVec.toNat_ofNat]
    rw [hz]
    show nI (uL z) &&& nI 127 = _
    rw [nx_and, show (127 : Nat) = 2 ^ 7 - 1 from rfl, Nat.and_two_pow_sub_one_eq_mod]
  rw [e7, e6, h1, sum_cnt]
theorem uL_bq (x : Int64) (b : Nat) : (uL x).testBit b = bq x b := rfl
theorem pcL_bq (x : Int64) : pcL x = nI (cntB (bq x) 64) := pcL_cnt x
