/-! bits: rows of kit/laws/BITS.to-paste, and ours -/
theorem nx_and (a b : Nat) : nI a &&& nI b = nI (a &&& b) := by
  apply Int32.toBitVec_inj.1
  show BitVec.ofNat 32 a &&& BitVec.ofNat 32 b = BitVec.ofNat 32 (a &&& b)
  apply BitVec.eq_of_getLsbD_eq
  intro i hi
  simp [hi]
theorem nx_cnt : ∀ j : Fin 32, (UInt32.ofNat j.val &&& Int32.toUInt32 31).toNat % 32 = j.val := by decide +kernel
theorem nx_ush {k j : Nat} (hk : k < 65536) (hj : j < 32) : ((nI k).toUInt32 >>> ((nI j).toUInt32 &&& Int32.toUInt32 31)).toInt32 = nI (k >>> j) := by
  have hs : k >>> j ≤ k := by
    rw [Nat.shiftRight_eq_div_pow]
    exact Nat.div_le_self _ _
  have e2 : UInt32.ofNat k >>> (UInt32.ofNat j &&& Int32.toUInt32 31) = UInt32.ofNat (k >>> j) := by
    apply UInt32.toNat_inj.1
    have h1 : (UInt32.ofNat k).toNat = k := Nat.mod_eq_of_lt (by omega)
    have h2 : (UInt32.ofNat (k >>> j)).toNat = k >>> j := Nat.mod_eq_of_lt (by omega)
    rw [UInt32.toNat_shiftRight, nx_cnt ⟨j, hj⟩, h1, h2]
  show (UInt32.ofNat k >>> (UInt32.ofNat j &&& Int32.toUInt32 31)).toInt32 = _
  rw [e2]
  rfl
theorem nx_bit {k j : Nat} (hk : k < 65536) (hj : j < 16) : (((nI k).toUInt32 >>> ((nI j).toUInt32 &&& Int32.toUInt32 31)).toInt32 &&& 1) = 0 ↔ k.testBit j = false := by
  rw [nx_ush hk (by omega)]
  show nI (k >>> j) &&& nI 1 = 0 ↔ _
  rw [nx_and, Nat.and_one_is_mod, ← nI_0, nI_eq (by omega) (by omega), Nat.testBit_eq_decide_div_mod_eq, Nat.shiftRight_eq_div_pow, decide_eq_false_iff_not]
  generalize k / 2 ^ j = z
  omega
theorem ts_bit {w : Int64} {s : UInt64} {j : Nat} (hj : j < 64) (hs : s.toNat = j) : ((w.toUInt64 >>> s).toInt64 &&& 1) = 0 ↔ w.toBitVec.getLsbD j = false := by
  have e : (w.toUInt64 >>> s).toInt64.toBitVec = w.toBitVec >>> j := by
    apply BitVec.eq_of_toNat_eq
    show (w.toUInt64 >>> s).toNat = _
    rw [UInt64.toNat_shiftRight, hs, Nat.mod_eq_of_lt hj, BitVec.toNat_ushiftRight]
    rfl
  rw [← Int64.toBitVec_inj, Int64.toBitVec_and, e]
  show w.toBitVec >>> j &&& 1#64 = 0#64 ↔ _
  constructor
  · intro h
    have t := congrArg (fun x => x.getLsbD 0) h
    simpa using t
  · intro h
    apply BitVec.eq_of_getLsbD_eq
    intro i hi
    cases i with
    | zero => simp [h]
    | succ i => simp
def bq (p : Int64) (b : Nat) : Bool := p.toBitVec.getLsbD b
theorem bq_ext {p q : Int64} (h : ∀ b, b < 64 → bq p b = bq q b) : p = q := Int64.toBitVec_inj.mp (BitVec.eq_of_getLsbD_eq (fun i hi => h i hi))
theorem bq_and (p q : Int64) (b : Nat) : bq (p &&& q) b = (bq p b && bq q b) := by
  unfold bq
  rw [Int64.toBitVec_and, BitVec.getLsbD_and]
theorem bq_or (p q : Int64) (b : Nat) : bq (p ||| q) b = (bq p b || bq q b) := by
  unfold bq
  rw [Int64.toBitVec_or, BitVec.getLsbD_or]
theorem bq_xor (p q : Int64) (b : Nat) : bq (p ^^^ q) b = (bq p b ^^ bq q b) := by
  unfold bq
  rw [Int64.toBitVec_xor, BitVec.getLsbD_xor]
theorem bq_big {p : Int64} {b : Nat} (h : 64 ≤ b) : bq p b = false := BitVec.getLsbD_of_ge _ _ h
theorem bq_0 (b : Nat) : bq 0 b = false := by
  unfold bq
  simp
theorem bq_m1 : ∀ b, b < 64 → bq (-1) b = true := by decide +kernel
theorem bq_nov : ∀ b, b < 64 → bq 281474976710656 b = decide (b = 48) := by decide +kernel
theorem bq_nnov : ∀ b, b < 64 → bq (-281474976710657) b = !decide (b = 48) := by decide +kernel
theorem bq_bit : ∀ v, v < 64 → ∀ b, b < 64 → bq (s_bit (nI v)) b = decide (b = v) := by decide +kernel
theorem bq_z {p : Int64} : p = 0 ↔ ∀ b, b < 64 → bq p b = false := by
  constructor
  · intro h b _
    rw [h, bq_0]
  · intro h
    exact bq_ext (fun b hb => by rw [h b hb, bq_0])
theorem want_bq (p : Int64) : s_want p = !(bq p 48) := by
  have h : (p &&& 281474976710656) = 0 ↔ bq p 48 = false := by
    rw [bq_z]
    constructor
    · intro h
      have := h 48 (by decide)
      rw [bq_and, bq_nov 48 (by decide)] at this
      simpa using this
    · intro h b hb
      rw [bq_and, bq_nov b hb]
      by_cases e : b = 48
      · rw [e, h]; rfl
      · simp [e]
  unfold s_want
  cases hq : bq p 48 with
  | false => rw [if_pos (h.mpr hq)]; rfl
  | true => rw [if_neg (fun z => by rw [h.mp z] at hq; cases hq)]; rfl
theorem sh_v : ∀ v, v < 64 → ((nI v).toInt64.toUInt64 &&& Int64.toUInt64 63).toNat = v := by decide +kernel
theorem hv_bq (p : Int64) {v : Nat} (hv : v < 48) : s_hv p (nI v) = bq p v := by
  have h := ts_bit (w := p) (show v < 64 by omega) (sh_v v (by omega))
  unfold s_hv
  rw [if_neg (nI_pos (by omega)), if_neg (show ¬ (48 : Int32) ≤ nI v from nI_ge (b := 48) hv (by decide))]
  cases hq : bq p v with
  | false => rw [if_pos (h.mpr hq)]
  | true => rw [if_neg (fun z => by have := h.mp z; unfold bq at hq; rw [this] at hq; cases hq)]
theorem hv_no (p : Int64) {x : Int32} (h : ¬ ∃ v : Nat, v < 48 ∧ x = nI v) : s_hv p x = false := by
  unfold s_hv
  by_cases h1 : x < 0
  · rw [if_pos h1]
  · rw [if_neg h1]
    by_cases h2 : (48 : Int32) ≤ x
    · rw [if_pos h2]
    · exfalso
      rcases pk_ix x (n := 48) (by decide) with g | g | g
      · exact h1 g
      · exact h2 g
      · exact h g
/-- a term's places and its row of truth values -/
def rot (r : Nat → Bool) (b : Nat) : Bool := if b < 48 then r (b + 1) else if b = 48 then r 0 else false
def PR (p : Int64) (r : Nat → Bool) : Prop := ∀ b, b < 64 → bq p b = rot r b
theorem PR.v {p : Int64} {r : Nat → Bool} (h : PR p r) {v : Nat} (hv : v < 48) : bq p v = r (v + 1) := by
  rw [h v (by omega), rot, if_pos hv]
theorem PR.n {p : Int64} {r : Nat → Bool} (h : PR p r) : bq p 48 = r 0 := h 48 (by decide)
theorem PR.and {p q : Int64} {r s : Nat → Bool} (h : PR p r) (g : PR q s) : PR (p &&& q) (fun b => r b && s b) := fun b hb => by
  rw [bq_and, h b hb, g b hb]
  unfold rot
  by_cases h1 : b < 48
  · simp [h1]
  · by_cases h2 : b = 48
    · simp [h2]
    · simp [h1, h2]
theorem PR.or {p q : Int64} {r s : Nat → Bool} (h : PR p r) (g : PR q s) : PR (p ||| q) (fun b => r b || s b) := fun b hb => by
  rw [bq_or, h b hb, g b hb]
  unfold rot
  by_cases h1 : b < 48
  · simp [h1]
  · by_cases h2 : b = 48
    · simp [h2]
    · simp [h1, h2]
theorem PR.congr {p : Int64} {r s : Nat → Bool} (h : PR p r) (e : ∀ b, b < 49 → r b = s b) : PR p s := fun b hb => by
  rw [h b hb]
  unfold rot
  by_cases h1 : b < 48
  · simp [h1, e (b + 1) (by omega)]
  · by_cases h2 : b = 48
    · simp [h2, e 0 (by omega)]
    · simp [h1, h2]
theorem PR.eq {p q : Int64} {r : Nat → Bool} (h : PR p r) (g : PR q r) : p = q := bq_ext (fun b hb => by rw [h b hb, g b hb])
theorem PR.row {p : Int64} {r s : Nat → Bool} (h : PR p r) (g : PR p s) : ∀ b, b < 49 → r b = s b := fun b hb => by
  cases b with
  | zero => rw [← h.n, ← g.n]
  | succ v => rw [← h.v (by omega), ← g.v (by omega)]
theorem all_iff {P : Nat → Bool} : ∀ {n : Nat}, allB P n = true ↔ ∀ b, b < n → P b = true := by
  intro n
  induction n with
  | zero => simp [allB]
  | succ n ih =>
    rw [allB, Bool.and_eq_true, ih]
    constructor
    · rintro ⟨h1, h2⟩ b hb
      rcases Nat.lt_succ_iff_lt_or_eq.mp hb with h | h
      · exact h1 b h
      · rw [h]; exact h2
    · intro h
      exact ⟨fun b hb => h b (by omega), h n (by omega)⟩
theorem any_iff {P : Nat → Bool} : ∀ {n : Nat}, anyB P n = true ↔ ∃ b, b < n ∧ P b = true := by
  intro n
  constructor
  · exact any_t
  · induction n with
    | zero => rintro ⟨b, hb, -⟩; omega
    | succ n ih =>
      rintro ⟨b, hb, e⟩
      rw [anyB, Bool.or_eq_true]
      rcases Nat.lt_succ_iff_lt_or_eq.mp hb with h | h
      · exact Or.inl (ih ⟨b, h, e⟩)
      · rw [h] at e; exact Or.inr e
theorem any_f {P : Nat → Bool} {n : Nat} : anyB P n = false ↔ ∀ b, b < n → P b = false := by
  constructor
  · intro h b hb
    cases hp : P b with
    | false => rfl
    | true => rw [any_iff.mpr ⟨b, hb, hp⟩] at h; cases h
  · intro h
    cases ha : anyB P n with
    | false => rfl
    | true => obtain ⟨b, hb, e⟩ := any_iff.mp ha; rw [h b hb] at e; cases e
theorem PR.zero {p : Int64} {r : Nat → Bool} (h : PR p r) : p = 0 ↔ ∀ b, b < 49 → r b = false := by
  rw [bq_z]
  constructor
  · intro g b hb
    cases b with
    | zero => rw [← h.n]; exact g 48 (by decide)
    | succ v => rw [← h.v (by omega)]; exact g v (by omega)
  · intro g b hb
    rw [h b hb]
    unfold rot
    by_cases h1 : b < 48
    · rw [if_pos h1]; exact g _ (by omega)
    · rw [if_neg h1]
      by_cases h2 : b = 48
      · rw [if_pos h2]; exact g 0 (by omega)
      · rw [if_neg h2]
theorem PR.notb {p : Int64} {r : Nat → Bool} (h : PR p r) {b : Nat} (hb : b < 64) : bq (p ^^^ (-1)) b = !(rot r b) := by
  rw [bq_xor, bq_m1 b hb, h b hb]
  cases rot r b <;> rfl
theorem rel_PR {p q : Int64} {s : SLt} {x y : Nat} (h : PR p (s.2 x)) (g : PR q (s.2 y)) : s_rel p q = m_rel s x y := by
  have e1 : (p &&& q) = 0 ↔ anyB (fun b => s.2 x b && s.2 y b) 49 = false := by
    rw [any_f]
    exact (h.and g).zero
  have e2 : (p &&& (q ^^^ (-1))) = 0 ↔ allB (fun b => !(s.2 x b) || s.2 y b) 49 = true := by
    rw [all_iff, bq_z]
    constructor
    · intro k b hb
      cases b with
      | zero =>
        have := k 48 (by decide)
        rw [bq_and, g.notb (by decide), h.n] at this
        revert this
        show (s.2 x 0 && !(s.2 y 0)) = false → _
        cases s.2 x 0 <;> cases s.2 y 0 <;> simp
      | succ v =>
        have hv : v < 48 := by omega
        have := k v (by omega)
        rw [bq_and, g.notb (by omega), h.v hv, rot, if_pos hv] at this
        revert this
        cases s.2 x (v + 1) <;> cases s.2 y (v + 1) <;> simp
    · intro k b hb
      rw [bq_and, g.notb hb, h b hb]
      unfold rot
      by_cases h1 : b < 48
      · have := k (b + 1) (by omega)
        simp only [if_pos h1]
        revert this
        cases s.2 x (b + 1) <;> cases s.2 y (b + 1) <;> simp
      · by_cases h2 : b = 48
        · have := k 0 (by omega)
          simp only [if_neg h1, if_pos h2]
          revert this
          cases s.2 x 0 <;> cases s.2 y 0 <;> simp
        · simp [h1, h2]
  unfold s_rel m_rel
  by_cases h1 : (p &&& q) = 0
  · rw [if_pos h1, if_pos (e1.mp h1)]
  · rw [if_neg h1, if_neg (fun z => h1 (e1.mpr z))]
    by_cases h2 : (p &&& (q ^^^ (-1))) = 0
    · rw [if_pos h2, if_pos (e2.mp h2)]
    · rw [if_neg h2, if_neg (fun z => h2 (e2.mpr z))]
