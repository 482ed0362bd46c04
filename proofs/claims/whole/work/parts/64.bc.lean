/-! ===== Integer.bitCount of what has 24 bits ===== -/
def nA (x : Nat) : Nat := x - ((x >>> 1) &&& 1431655765)
def nB (x : Nat) : Nat := (nA x &&& 858993459) + ((nA x >>> 2) &&& 858993459)
def nC (x : Nat) : Nat := (nB x + (nB x >>> 4)) &&& 252645135
def nE (c : Nat) : Nat := ((c + (c >>> 8)) + ((c + (c >>> 8)) >>> 16)) &&& 63
theorem lane {M k h l : Nat} (hk : k < 8) (hl : l < 256) (hh : h < 65536) (h1 : ∀ j, j < 8 → 8 ≤ j + k → M.testBit j = false) (h2 : ∀ j, j < 16 → M.testBit (j + 8) = M.testBit j) : ((256 * h + l) >>> k) &&& M = 256 * ((h >>> k) &&& M) + ((l >>> k) &&& M) := by
  have hb : (l >>> k) &&& M < 2 ^ 8 := Nat.lt_of_le_of_lt Nat.and_le_left (Nat.lt_of_le_of_lt (by rw [Nat.shiftRight_eq_div_pow]; exact Nat.div_le_self _ _) hl)
  refine Nat.eq_of_testBit_eq fun j => ?_
  rw [show 256 * ((h >>> k) &&& M) = 2 ^ 8 * ((h >>> k) &&& M) from rfl, Nat.testBit_two_pow_mul_add _ hb]
  rw [Nat.testBit_and, Nat.testBit_shiftRight, show 256 * h = 2 ^ 8 * h from rfl, Nat.testBit_two_pow_mul_add _ (show l < 2 ^ 8 from hl)]
  by_cases hj : j < 8
  · rw [if_pos hj, Nat.testBit_and, Nat.testBit_shiftRight]
    by_cases hjk : k + j < 8
    · rw [if_pos hjk]
    · rw [h1 j hj (by omega), Bool.and_false, Bool.and_false]
  · rw [if_neg hj, if_neg (by omega), Nat.testBit_and, Nat.testBit_shiftRight, show k + j - 8 = k + (j - 8) by omega]
    by_cases hb2 : k + (j - 8) < 16
    · have := h2 (j - 8) (by omega)
      rw [show j - 8 + 8 = j by omega] at this
      rw [this]
    · have e : h.testBit (k + (j - 8)) = false := Nat.testBit_lt_two_pow (Nat.lt_of_lt_of_le hh (show 2 ^ 16 ≤ 2 ^ (k + (j - 8)) from Nat.pow_le_pow_right (by decide) (by omega)))
      rw [e, Bool.false_and, Bool.false_and]
theorem nA_l {h l : Nat} (hl : l < 256) (hh : h < 65536) : nA (256 * h + l) = 256 * nA h + nA l := by
  have e := lane (M := 1431655765) (k := 1) (by decide) hl hh (by decide) (by decide)
  have q1 : (h >>> 1) &&& 1431655765 ≤ h := Nat.le_trans Nat.and_le_left (by rw [Nat.shiftRight_eq_div_pow]; exact Nat.div_le_self _ _)
  have q2 : (l >>> 1) &&& 1431655765 ≤ l := Nat.le_trans Nat.and_le_left (by rw [Nat.shiftRight_eq_div_pow]; exact Nat.div_le_self _ _)
  unfold nA
  rw [e]
  omega
theorem nA_le (x : Nat) : nA x ≤ x := Nat.sub_le _ _
theorem nB_l {h l : Nat} (hl : l < 256) (hh : h < 65536) : nB (256 * h + l) = 256 * nB h + nB l := by
  have hl' : nA l < 256 := Nat.lt_of_le_of_lt (nA_le l) hl
  have hh' : nA h < 65536 := Nat.lt_of_le_of_lt (nA_le h) hh
  have e := lane (M := 858993459) (k := 2) (by decide) hl' hh' (by decide) (by decide)
  have e0 := lane (M := 858993459) (k := 0) (by decide) hl' hh' (by decide) (by decide)
  simp only [Nat.shiftRight_zero] at e0
  unfold nB
  rw [nA_l hl hh, e, e0]
  omega
theorem nB_8 : ∀ l, l < 256 → nB l ≤ 68 ∧ nB l % 16 ≤ 4 ∧ nC l < 9 := by decide +kernel
theorem nC_l {h l : Nat} (hl : l < 256) (hh : h < 65536) (hb : nB h % 16 ≤ 4) (hb2 : nB h + nB h / 16 < 65536) : nC (256 * h + l) = 256 * nC h + nC l := by
  obtain ⟨a1, a2, -⟩ := nB_8 l hl
  unfold nC
  rw [nB_l hl hh, Nat.shiftRight_eq_div_pow, Nat.shiftRight_eq_div_pow, Nat.shiftRight_eq_div_pow]
  simp only [show (2 : Nat) ^ 4 = 16 from rfl]
  have e1 : 256 * nB h + nB l + (256 * nB h + nB l) / 16 = 256 * (nB h + nB h / 16) + (16 * (nB h % 16) + nB l + nB l / 16) := by omega
  rw [e1]
  have e0 := lane (M := 252645135) (k := 0) (h := nB h + nB h / 16) (l := 16 * (nB h % 16) + nB l + nB l / 16) (by decide) (by omega) hb2 (by decide) (by decide)
  simp only [Nat.shiftRight_zero] at e0
  rw [e0]
  have m15 : ∀ z, z < 256 → z &&& 252645135 = z % 16 := by decide +kernel
  rw [m15 (16 * (nB h % 16) + nB l + nB l / 16) (by omega), m15 (nB l + nB l / 16) (by omega)]
  omega
theorem nE_3 : ∀ a, a < 9 → ∀ b, b < 9 → ∀ c, c < 9 → nE (256 * (256 * c + b) + a) = a + b + c := by decide +kernel
theorem nC_ct : ∀ l, l < 256 → nC l = ct (fun j => l.testBit j) 8 := by decide +kernel
theorem ct_split (p : Nat → Bool) (m : Nat) : ∀ n, ct p (m + n) = ct p m + ct (fun k => p (m + k)) n
  | 0 => rfl
  | n + 1 => by
    rw [show m + (n + 1) = (m + n) + 1 from rfl, ct, ct_split p m n, ct]
    omega
theorem nE_ct {x : Nat} (hx : x < 2 ^ 24) : nE (nC x) = ct (fun j => x.testBit j) 24 := by
  obtain ⟨l0, h0, r0⟩ : ∃ l h, l = x % 256 ∧ h = x / 256 := ⟨_, _, rfl, rfl⟩
  have hl0 : l0 < 256 := by omega
  have hh0 : h0 < 65536 := by omega
  have hx0 : x = 256 * h0 + l0 := by omega
  have hl1 : h0 % 256 < 256 := by omega
  have hl2 : h0 / 256 < 256 := by omega
  have hx1 : h0 = 256 * (h0 / 256) + h0 % 256 := by omega
  obtain ⟨p1, p2, p3⟩ := nB_8 _ hl1
  obtain ⟨q1, q2, q3⟩ := nB_8 _ hl2
  obtain ⟨-, -, s3⟩ := nB_8 _ hl0
  have hBh : nB h0 = 256 * nB (h0 / 256) + nB (h0 % 256) := by
    have := nB_l (h := h0 / 256) hl1 (by omega)
    rw [← hx1] at this
    exact this
  have hC1 : nC h0 = 256 * nC (h0 / 256) + nC (h0 % 256) := by
    have := nC_l (h := h0 / 256) hl1 (by omega) q2 (by omega)
    rw [← hx1] at this
    exact this
  have hC0 := nC_l (h := h0) hl0 hh0 (by omega) (by omega)
  rw [← hx0, hC1] at hC0
  rw [hC0, nE_3 _ s3 _ p3 _ q3, nC_ct _ hl0, nC_ct _ hl1, nC_ct _ hl2]
  rw [show (24 : Nat) = 8 + (8 + 8) from rfl, ct_split _ 8 (8 + 8), ct_split _ 8 8, Nat.add_assoc]
  have hx2 : x = 2 ^ 8 * h0 + l0 := hx0
  have hx3 : h0 = 2 ^ 8 * (h0 / 256) + h0 % 256 := hx1
  have t0 : ∀ j, x.testBit (8 + j) = h0.testBit j := fun j => by
    rw [hx2, Nat.testBit_two_pow_mul_add _ (show l0 < 2 ^ 8 from hl0), if_neg (by omega)]
    congr 1
    omega
  congr 1
  · refine ct_cong fun k hk => ?_
    rw [hx2, Nat.testBit_two_pow_mul_add _ (show l0 < 2 ^ 8 from hl0), if_pos hk]
  · congr 1
    · refine ct_cong fun k hk => ?_
      rw [t0]
      have := Nat.testBit_two_pow_mul_add (h0 / 256) (show h0 % 256 < 2 ^ 8 from hl1) k
      rw [← hx3, if_pos hk] at this
      exact this.symm
    · refine ct_cong fun k hk => ?_
      rw [t0]
      have := Nat.testBit_two_pow_mul_add (h0 / 256) (show h0 % 256 < 2 ^ 8 from hl1) (8 + k)
      rw [← hx3, if_neg (by omega), show 8 + k - 8 = k by omega] at this
      exact this.symm
abbrev tN (x : Int32) : Nat := x.toBitVec.toNat
theorem tN_sh {x : Int32} {s : UInt32} {k : Nat} (hs : (s.toBitVec % 32).toNat = k) : tN (x.toUInt32 >>> s).toInt32 = tN x >>> k := by
  show (x.toUInt32 >>> s).toBitVec.toNat = _
  rw [UInt32.toBitVec_shiftRight, BitVec.ushiftRight_eq', BitVec.toNat_ushiftRight, hs]
  rfl
theorem tN_and (x y : Int32) : tN (x &&& y) = tN x &&& tN y := by
  rw [tN, Int32.toBitVec_and, BitVec.toNat_and]
theorem tN_add {x y : Int32} (h : tN x + tN y < 2 ^ 32) : tN (x + y) = tN x + tN y := by
  rw [tN, Int32.toBitVec_add, BitVec.toNat_add]
  exact Nat.mod_eq_of_lt h
theorem tN_sub {x y : Int32} (h : tN y ≤ tN x) : tN (x - y) = tN x - tN y := by
  rw [tN, Int32.toBitVec_sub, BitVec.toNat_sub_of_le h]
theorem tN_inj {x y : Int32} (h : tN x = tN y) : x = y := Int32.toBitVec_inj.mp (BitVec.eq_of_toNat_eq h)
theorem shr_le (x k : Nat) : x >>> k ≤ x := by rw [Nat.shiftRight_eq_div_pow]; exact Nat.div_le_self _ _
theorem bc32_E {x : Int32} (hx : tN x < 2 ^ 24) : tN (bc32 x) = nE (nC (tN x)) := by
  have e1 : ((nI 1).toUInt32 &&& Int32.toUInt32 31).toBitVec % 32 = 1#32 := by decide
  have e2 : ((nI 2).toUInt32 &&& Int32.toUInt32 31).toBitVec % 32 = 2#32 := by decide
  have e4 : ((nI 4).toUInt32 &&& Int32.toUInt32 31).toBitVec % 32 = 4#32 := by decide
  have e8 : ((nI 8).toUInt32 &&& Int32.toUInt32 31).toBitVec % 32 = 8#32 := by decide
  have e16 : ((nI 16).toUInt32 &&& Int32.toUInt32 31).toBitVec % 32 = 16#32 := by decide
  have u1 : ∀ y : Int32, tN (y.toUInt32 >>> ((nI 1).toUInt32 &&& Int32.toUInt32 31)).toInt32 = tN y >>> 1 := fun y => tN_sh (by rw [e1]; rfl)
  have u2' : ∀ y : Int32, tN (y.toUInt32 >>> ((nI 2).toUInt32 &&& Int32.toUInt32 31)).toInt32 = tN y >>> 2 := fun y => tN_sh (by rw [e2]; rfl)
  have u4 : ∀ y : Int32, tN (y.toUInt32 >>> ((nI 4).toUInt32 &&& Int32.toUInt32 31)).toInt32 = tN y >>> 4 := fun y => tN_sh (by rw [e4]; rfl)
  have u8 : ∀ y : Int32, tN (y.toUInt32 >>> ((nI 8).toUInt32 &&& Int32.toUInt32 31)).toInt32 = tN y >>> 8 := fun y => tN_sh (by rw [e8]; rfl)
  have u16 : ∀ y : Int32, tN (y.toUInt32 >>> ((nI 16).toUInt32 &&& Int32.toUInt32 31)).toInt32 = tN y >>> 16 := fun y => tN_sh (by rw [e16]; rfl)
  unfold bc32
  simp only []
  generalize ha : x - ((x.toUInt32 >>> ((nI 1).toUInt32 &&& Int32.toUInt32 31)).toInt32 &&& 1431655765) = a
  have hA : tN a = nA (tN x) := by
    rw [← ha, tN_sub, tN_and, u1]
    · rfl
    · rw [tN_and, u1]
      exact Nat.le_trans Nat.and_le_left (shr_le _ _)
  generalize hb : (a &&& 858993459) + ((a.toUInt32 >>> ((nI 2).toUInt32 &&& Int32.toUInt32 31)).toInt32 &&& 858993459) = b
  have q1 : tN a &&& 858993459 ≤ 858993459 := Nat.and_le_right
  have q2 : (tN a >>> 2) &&& 858993459 ≤ 858993459 := Nat.and_le_right
  have hB : tN b = nB (tN x) := by
    rw [← hb, tN_add, tN_and, tN_and, u2']
    · unfold nB; rw [← hA]; rfl
    · rw [tN_and, tN_and, u2']
      show (tN a &&& 858993459) + ((tN a >>> 2) &&& 858993459) < 2 ^ 32
      omega
  have hB2 : tN b ≤ 1717986918 := by rw [hB]; unfold nB; rw [← hA]; omega
  generalize hc : (b + (b.toUInt32 >>> ((nI 4).toUInt32 &&& Int32.toUInt32 31)).toInt32) &&& 252645135 = c
  have q3 := shr_le (tN b) 4
  have hC : tN c = nC (tN x) := by
    rw [← hc, tN_and, tN_add, u4]
    · unfold nC; rw [← hB]; rfl
    · rw [u4]
      have : tN b >>> 4 = tN b / 16 := Nat.shiftRight_eq_div_pow _ _
      omega
  have hC2 : tN c ≤ 252645135 := by rw [hC]; exact Nat.and_le_right
  have q4 := shr_le (tN c) 8
  have hD : tN (c + (c.toUInt32 >>> ((nI 8).toUInt32 &&& Int32.toUInt32 31)).toInt32) = tN c + tN c >>> 8 := by
    rw [tN_add, u8]
    rw [u8]; omega
  generalize hd : c + (c.toUInt32 >>> ((nI 8).toUInt32 &&& Int32.toUInt32 31)).toInt32 = d at hD ⊢
  have q5 := shr_le (tN d) 16
  rw [tN_and, tN_add, u16, hD, hC]
  · rfl
  · rw [u16]; omega
/-- the bits of a number of at most 24 bits, counted -/
theorem bc_ct {x : Int32} (h : ∀ j, 24 ≤ j → gb x j = false) : bc32 x = nI (ct (fun j => gb x j) 24) := by
  have hx : tN x < 2 ^ 24 := by
    refine Nat.lt_pow_two_of_testBit _ fun i hi => ?_
    exact h i hi
  refine tN_inj ?_
  rw [bc32_E hx, nE_ct hx]
  have hle := ct_le (fun j => gb x j) 24
  show ct (fun j => gb x j) 24 = (BitVec.ofNat 32 (ct (fun j => gb x j) 24)).toNat
  rw [BitVec.toNat_ofNat]
  exact (Nat.mod_eq_of_lt (by omega)).symm
