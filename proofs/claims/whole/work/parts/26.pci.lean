/-! counting the bits of an int -/
def uI (x : Int32) : Nat := x.toBitVec.toNat
theorem uI_lt (x : Int32) : uI x < 2 ^ 32 := x.toBitVec.isLt
theorem uI_and (x y : Int32) : uI (x &&& y) = uI x &&& uI y := by
  unfold uI
  rw [Int32.toBitVec_and, BitVec.toNat_and]
theorem uI_add (x y : Int32) : uI (x + y) = (uI x + uI y) % 2 ^ 32 := by
  unfold uI
  rw [Int32.toBitVec_add, BitVec.toNat_add]
theorem uI_sub {x y : Int32} (h : uI y ≤ uI x) : uI (x - y) = uI x - uI y := by
  have hx := uI_lt x
  unfold uI at *
  rw [Int32.toBitVec_sub, BitVec.toNat_sub]
  omega
theorem uI_sh (x : Int32) {k : Nat} (hk : k < 32) : uI (sh32 x (nI k)) = uI x / 2 ^ k := by
  unfold uI sh32
  show (x.toUInt32 >>> ((nI k).toUInt32 &&& Int32.toUInt32 31)).toNat = _
  rw [UInt32.toNat_shiftRight]
  have e : ((nI k).toUInt32 &&& Int32.toUInt32 31).toNat % 32 = k := nx_cnt ⟨k, hk⟩
  rw [e, Nat.shiftRight_eq_div_pow]
  rfl
theorem uI_nI {n : Nat} (h : n < 2 ^ 32) : uI (nI n) = n := by
  show (BitVec.ofNat 32 n).toNat = n
  rw [BitVec.toNat_ofNat, Nat.mod_eq_of_lt h]
theorem nI_uI (x : Int32) : x = nI (uI x) := by
  apply Int32.toBitVec_inj.1
  apply BitVec.eq_of_toNat_eq
  show x.toBitVec.toNat = (BitVec.ofNat 32 x.toBitVec.toNat).toNat
  rw [BitVec.toNat_ofNat, Nat.mod_eq_of_lt x.toBitVec.isLt]
theorem cn1 : uI 1431655765 = rep 85 4 := by decide +kernel
theorem cn2 : uI 858993459 = rep 51 4 := by decide +kernel
theorem cn3 : uI 252645135 = rep 15 4 := by decide +kernel
theorem uI_1 (x : Int32) : uI (pcI1 x) = lift p1 4 (uI x) := by
  have h := l1 4 (uI x) (uI_lt x)
  have e : uI (sh32 x 1 &&& 1431655765) = (uI x / 2) &&& rep 85 4 := by
    rw [uI_and, cn1, show (1 : Int32) = nI 1 from rfl, uI_sh x (by decide)]
  have hle : uI (sh32 x 1 &&& 1431655765) ≤ uI x := by
    rw [e]
    exact Nat.le_trans Nat.and_le_left (Nat.div_le_self _ _)
  rw [pcI1, uI_sub hle, e]
  exact h
theorem uI_2 (x : Int32) : uI (pcI2 x) = lift p2 4 (uI x) := by
  have h := l2 4 (uI x)
  have e : uI (sh32 x 2 &&& 858993459) = (uI x / 4) &&& rep 51 4 := by
    rw [uI_and, cn2, show (2 : Int32) = nI 2 from rfl, uI_sh x (by decide)]
  have e1 : uI (x &&& 858993459) = uI x &&& rep 51 4 := by rw [uI_and, cn2]
  have b1 : (uI x / 4) &&& rep 51 4 ≤ rep 51 4 := Nat.and_le_right
  have b2 : uI x &&& rep 51 4 ≤ rep 51 4 := Nat.and_le_right
  have b3 : rep 51 4 = 858993459 := by decide +kernel
  rw [pcI2, uI_add, e, e1, h, Nat.mod_eq_of_lt]
  rw [← h]
  omega
theorem uI_3 {x : Int32} (hx : uI x < 2 ^ 31) : uI (pcI3 x) = (uI x + uI x / 16) &&& rep 15 4 := by
  rw [pcI3, uI_and, cn3, uI_add, show (4 : Int32) = nI 4 from rfl, uI_sh x (by decide), Nat.mod_eq_of_lt (by omega)]
theorem qs1 (c0 c1 c2 c3 : Nat) : (c0 + 256 * (c1 + 256 * (c2 + 256 * c3))) + (c1 + 256 * (c2 + 256 * c3)) = ((c0 + c1) + 256 * (c1 + c2)) + 65536 * ((c2 + c3) + 256 * c3) := by omega
theorem qs2 {c0 c1 c2 c3 : Nat} (k0 : c0 ≤ 8) (k1 : c1 ≤ 8) (k2 : c2 ≤ 8) (k3 : c3 ≤ 8) : (((c0 + c1) + 256 * (c1 + c2)) + 65536 * ((c2 + c3) + 256 * c3) + ((c2 + c3) + 256 * c3)) % 64 = c0 + (c1 + (c2 + c3)) := by omega
theorem qcS {c0 c1 c2 c3 y : Nat} (k0 : c0 ≤ 8) (k1 : c1 ≤ 8) (k2 : c2 ≤ 8) (k3 : c3 ≤ 8) (hy : y = c0 + 256 * (c1 + 256 * (c2 + 256 * c3))) : (y + y / 256 + (y + y / 256) / 65536) % 64 = c0 + (c1 + (c2 + c3)) := by
  have h1 : y / 256 = c1 + 256 * (c2 + 256 * c3) := by rw [hy]; exact dgL (by omega)
  have h2 : y + y / 256 = ((c0 + c1) + 256 * (c1 + c2)) + 65536 * ((c2 + c3) + 256 * c3) := by
    rw [h1, hy]
    exact qs1 c0 c1 c2 c3
  rw [h2]
  clear h1 h2 hy
  have b0 : (c0 + c1) + 256 * (c1 + c2) < 65536 := by omega
  rw [dgL b0]
  exact qs2 k0 k1 k2 k3
theorem qcN (m : Nat) : (lift pc8 4 m + lift pc8 4 m / 256 + (lift pc8 4 m + lift pc8 4 m / 256) / 65536) % 64 = sumB 4 m :=
  qcS (pc8_le (m % 256)) (pc8_le (m / 256 % 256)) (pc8_le (m / 256 / 256 % 256)) (pc8_le (m / 256 / 256 / 256 % 256)) (y := lift pc8 4 m) rfl
theorem qcB (m : Nat) : lift pc8 4 m ≤ 134744072 := by
  have h := lift_lt (f := pc8) (k := 8) (fun a _ => pc8_le a) (by decide) 4 m
  have e : rep 8 4 = 134744072 := by decide +kernel
  rw [e] at h
  exact h
theorem qsum {y a b : Nat} (hy : y ≤ 134744072) (ha : a ≤ y) (hb : b ≤ y + a) : y + a < 4294967296 ∧ y + a + b < 4294967296 := by omega
theorem pcI_cnt (x : Int32) : pcI x = nI (cntB (fun b => (uI x).testBit b) 32) := by
  have e1 := uI_1 x
  have e2 : uI (pcI2 (pcI1 x)) = lift (fun a => p2 (p1 a)) 4 (uI x) := by
    rw [uI_2, e1, lift_comp _ _ (fun a ha => (d3 a ha).2.2.1)]
  have b68 : lift (fun a => p2 (p1 a)) 4 (uI x) ≤ rep 68 4 := lift_lt (fun a ha => by have := d3 a ha; omega) (by decide) _ _
  have b68' : rep 68 4 = 1145324612 := by decide +kernel
  have e3 : uI (pcI3 (pcI2 (pcI1 x))) = lift pc8 4 (uI x) := by
    rw [uI_3 (by rw [e2]; omega), e2, (l3 (fun a => p2 (p1 a)) (fun a ha => ⟨(d3 a ha).1, (d3 a ha).2.1, (d3 a ha).2.2.2⟩) 4 (uI x)).1]
    exact lift_congr (fun a ha => d4 a ha) _ _
  have h1 := qcN (uI x)
  have hB := qcB (uI x)
  generalize lift pc8 4 (uI x) = y at e3 h1 hB
  obtain ⟨s1, s2⟩ := qsum hB (Nat.div_le_self y 256) (Nat.div_le_self (y + y / 256) 65536)
  have e4 : uI (pcI4 (pcI3 (pcI2 (pcI1 x)))) = y + y / 256 := by
    rw [pcI4, uI_add, show (8 : Int32) = nI 8 from rfl, uI_sh _ (by decide), e3]
    exact Nat.mod_eq_of_lt s1
  have e5 : uI (pcI5 (pcI4 (pcI3 (pcI2 (pcI1 x))))) = y + y / 256 + (y + y / 256) / 65536 := by
    rw [pcI5, uI_add, show (16 : Int32) = nI 16 from rfl, uI_sh _ (by decide), e4]
    exact Nat.mod_eq_of_lt s2
  have e7 : pcI x = nI (uI (pcI5 (pcI4 (pcI3 (pcI2 (pcI1 x))))) % 64) := by
    rw [pcI]
    generalize pcI5 (pcI4 (pcI3 (pcI2 (pcI1 x)))) = z
    rw [show z &&& 63 = nI (uI z) &&& nI 63 by rw [← nI_uI]; rfl, nx_and, show (63 : Nat) = 2 ^ 6 - 1 from rfl, Nat.and_two_pow_sub_one_eq_mod]
  rw [e7, e5, h1, sum_cnt]
/-- a stretch with nothing in it -/
theorem cnt_flat {S : Nat → Bool} {a b : Nat} (hab : a ≤ b) (h : ∀ x, a ≤ x → x < b → S x = false) : cntB S b = cntB S a := by
  induction b with
  | zero => have : a = 0 := by omega
            subst this; rfl
  | succ b ih =>
    by_cases e : a = b + 1
    · rw [e]
    · rw [cntB, h b (by omega) (by omega), ih (by omega) (fun x h1 h2 => h x h1 (by omega))]
      rfl
theorem pcI_16 {h : Nat} (hh : h < 65536) : pcI (nI h) = nI (cntB h.testBit 16) := by
  rw [pcI_cnt, uI_nI (by omega)]
  rw [show cntB (fun b => h.testBit b) 32 = cntB h.testBit 16 from cnt_flat (by decide) (fun x h1 _ => Nat.testBit_lt_two_pow (Nat.lt_of_lt_of_le hh (show 2 ^ 16 ≤ 2 ^ x from Nat.pow_le_pow_right (by decide) h1)))]
theorem msk : ∀ j, j < 16 → ((1 : Int32) <<< (nI j &&& 31)) - 1 = nI (2 ^ j - 1) := by decide +kernel
theorem onb : ∀ j, j < 16 → ((1 : Int32) <<< (nI j &&& 31)) = nI (2 ^ j) := by decide +kernel
theorem nx_or (a b : Nat) : nI a ||| nI b = nI (a ||| b) := by
  apply Int32.toBitVec_inj.1
  show BitVec.ofNat 32 a ||| BitVec.ofNat 32 b = BitVec.ofNat 32 (a ||| b)
  apply BitVec.eq_of_getLsbD_eq
  intro i hi
  simp [hi]
theorem pcI_m {h j : Nat} (hh : h < 65536) (hj : j < 16) : pcI (nI h &&& (((1 : Int32) <<< (nI j &&& 31)) - 1)) = nI (cntB h.testBit j) := by
  rw [msk j hj, nx_and, Nat.and_two_pow_sub_one_eq_mod, pcI_16 (Nat.lt_of_le_of_lt (Nat.mod_le _ _) hh)]
  rw [cnt_flat (a := j) (by omega) (fun x h1 _ => by rw [Nat.testBit_mod_two_pow, decide_eq_false (by omega)]; rfl)]
  rw [cnt_congr (Q := h.testBit) (fun b hb => by rw [Nat.testBit_mod_two_pow, decide_eq_true hb]; rfl)]
theorem or_bit {h j : Nat} (b : Nat) : (h ||| 2 ^ j).testBit b = (h.testBit b || decide (j = b)) := by
  rw [Nat.testBit_or, Nat.testBit_two_pow]
theorem or_lt {h j : Nat} (hh : h < 65536) (hj : j < 16) : h ||| 2 ^ j < 65536 := Nat.or_lt_two_pow (n := 16) hh (Nat.pow_lt_pow_right (by decide) hj)
