/-! the sum of eight counts, as the shifts add them up -/
theorem dgL {a b k : Nat} (h : a < k) : (a + k * b) / k = b := by
  rw [Nat.add_mul_div_left _ _ (Nat.lt_of_le_of_lt (Nat.zero_le _) h), Nat.div_eq_of_lt h, Nat.zero_add]
theorem ps1 (c0 c1 c2 c3 c4 c5 c6 c7 : Nat) : (c0 + 256 * (c1 + 256 * (c2 + 256 * (c3 + 256 * (c4 + 256 * (c5 + 256 * (c6 + 256 * c7))))))) + (c1 + 256 * (c2 + 256 * (c3 + 256 * (c4 + 256 * (c5 + 256 * (c6 + 256 * c7)))))) = ((c0 + c1) + 256 * (c1 + c2)) + 65536 * (((c2 + c3) + 256 * (c3 + c4)) + 65536 * (((c4 + c5) + 256 * (c5 + c6)) + 65536 * ((c6 + c7) + 256 * c7))) := by omega
theorem ps2 (d0 d1 d2 d3 : Nat) : (d0 + 65536 * (d1 + 65536 * (d2 + 65536 * d3))) + (d1 + 65536 * (d2 + 65536 * d3)) = ((d0 + d1) + 65536 * (d1 + d2)) + 4294967296 * ((d2 + d3) + 65536 * d3) := by omega
theorem ps3 (e0 e1 e2 e3 : Nat) : ((e0 + 65536 * e1) + 4294967296 * (e2 + 65536 * e3)) + (e2 + 65536 * e3) = (e0 + e2) + 65536 * ((e1 + e3) + 65536 * (e2 + 65536 * e3)) := by omega
theorem ps4 {c0 c1 c2 c3 c4 c5 c6 c7 z : Nat} (k0 : c0 ≤ 8) (k1 : c1 ≤ 8) (k2 : c2 ≤ 8) (k3 : c3 ≤ 8) (k4 : c4 ≤ 8) (k5 : c5 ≤ 8) (k6 : c6 ≤ 8) (k7 : c7 ≤ 8) : ((((c0 + c1) + 256 * (c1 + c2)) + ((c2 + c3) + 256 * (c3 + c4))) + (((c4 + c5) + 256 * (c5 + c6)) + ((c6 + c7) + 256 * c7)) + 65536 * z) % 128 = c0 + (c1 + (c2 + (c3 + (c4 + (c5 + (c6 + c7)))))) := by omega
theorem pcS {c0 c1 c2 c3 c4 c5 c6 c7 y : Nat} (k0 : c0 ≤ 8) (k1 : c1 ≤ 8) (k2 : c2 ≤ 8) (k3 : c3 ≤ 8) (k4 : c4 ≤ 8) (k5 : c5 ≤ 8) (k6 : c6 ≤ 8) (k7 : c7 ≤ 8) (hy : y = c0 + 256 * (c1 + 256 * (c2 + 256 * (c3 + 256 * (c4 + 256 * (c5 + 256 * (c6 + 256 * c7))))))) :
    ((y + y / 256 + (y + y / 256) / 65536) + (y + y / 256 + (y + y / 256) / 65536) / 4294967296) % 128 = c0 + (c1 + (c2 + (c3 + (c4 + (c5 + (c6 + c7)))))) := by
  have h1 : y / 256 = c1 + 256 * (c2 + 256 * (c3 + 256 * (c4 + 256 * (c5 + 256 * (c6 + 256 * c7))))) := by rw [hy]; exact dgL (by omega)
  have h2 : y + y / 256 = ((c0 + c1) + 256 * (c1 + c2)) + 65536 * (((c2 + c3) + 256 * (c3 + c4)) + 65536 * (((c4 + c5) + 256 * (c5 + c6)) + 65536 * ((c6 + c7) + 256 * c7))) := by
    rw [h1, hy]
    exact ps1 c0 c1 c2 c3 c4 c5 c6 c7
  rw [h2]
  clear h1 h2 hy
  have b0 : (c0 + c1) + 256 * (c1 + c2) < 65536 := by omega
  have b1 : (c2 + c3) + 256 * (c3 + c4) < 16384 := by omega
  rw [dgL b0, ps2]
  rw [dgL (show ((c0 + c1) + 256 * (c1 + c2)) + ((c2 + c3) + 256 * (c3 + c4)) + 65536 * (((c2 + c3) + 256 * (c3 + c4)) + ((c4 + c5) + 256 * (c5 + c6))) < 4294967296 by omega), ps3]
  exact ps4 k0 k1 k2 k3 k4 k5 k6 k7
