/-! ===== bits ===== -/
abbrev gb (x : Int32) (j : Nat) : Bool := x.toBitVec.getLsbD j
theorem sh_j : ∀ j, j < 32 → (nI j &&& 31) = nI j ∧ ((nI j).toBitVec.smod 32).toNat = j := by decide +kernel
theorem and1 (y : Int32) : (y &&& nI 1) = (if gb y 0 then nI 1 else nI 0) := by
  apply Int32.toBitVec_inj.mp
  apply BitVec.eq_of_getLsbD_eq
  intro i hi
  rw [Int32.toBitVec_and, BitVec.getLsbD_and]
  by_cases h0 : i = 0
  · subst h0
    cases h : gb y 0 with
    | true => rw [show y.toBitVec.getLsbD 0 = true from h]; rfl
    | false => rw [show y.toBitVec.getLsbD 0 = false from h]; rfl
  · have e1 : (nI 1).toBitVec.getLsbD i = false := by
      have : ∀ i, i < 32 → i ≠ 0 → (nI 1).toBitVec.getLsbD i = false := by decide +kernel
      exact this i hi h0
    rw [e1, Bool.and_false]
    split
    · rw [e1]
    · have : ∀ i, i < 32 → (nI 0).toBitVec.getLsbD i = false := by decide +kernel
      rw [this i hi]
theorem shr_j {x : Int32} {j : Nat} (hj : j < 32) : gb (x >>> (nI j &&& 31)) 0 = gb x j := by
  obtain ⟨h1, h2⟩ := sh_j j hj
  rw [h1, gb, Int32.toBitVec_shiftRight]
  show (x.toBitVec.sshiftRight ((nI j).toBitVec.smod 32).toNat).getLsbD 0 = gb x j
  rw [h2, BitVec.getLsbD_sshiftRight]
  simp [hj]
theorem sb_iff {x : Int32} {j : Nat} (hj : j < 32) : sbit x (nI j) ↔ gb x j = true := by
  unfold sbit
  rw [and1, shr_j hj]
  cases gb x j with
  | true => exact ⟨fun _ => rfl, fun _ => by decide⟩
  | false => exact ⟨fun h => absurd rfl h, fun h => by cases h⟩
theorem sb1_iff {x : Int32} {j : Nat} (hj : j < 32) : ((x >>> (nI j &&& 31)) &&& nI 1) = nI 1 ↔ gb x j = true := by
  rw [and1, shr_j hj]
  cases gb x j with
  | true => exact ⟨fun _ => rfl, fun _ => rfl⟩
  | false => exact ⟨fun h => absurd h (by decide), fun h => by cases h⟩
theorem gb_or (x y : Int32) (j : Nat) : gb (x ||| y) j = (gb x j || gb y j) := by
  rw [gb, Int32.toBitVec_or, BitVec.getLsbD_or]
theorem gb_and (x y : Int32) (j : Nat) : gb (x &&& y) j = (gb x j && gb y j) := by
  rw [gb, Int32.toBitVec_and, BitVec.getLsbD_and]
theorem gb_0 (j : Nat) : gb (nI 0) j = false := by
  show (0#32).getLsbD j = false
  simp
theorem gb_1 : ∀ k, k < 32 → ∀ j, j < 32 → gb (nI 1 <<< (nI k &&& 31)) j = decide (j = k) := by decide +kernel
theorem gb_n1 : ∀ k, k < 32 → ∀ j, j < 32 → gb ((nI 1 <<< (nI k &&& 31)) ^^^ -1) j = decide (j ≠ k) := by decide +kernel
theorem gb_ext {x y : Int32} (h : ∀ j, j < 32 → gb x j = gb y j) : x = y := Int32.toBitVec_inj.mp (BitVec.eq_of_getLsbD_eq fun i hi => h i hi)
theorem gb_hi {x : Int32} {j : Nat} (h : 32 ≤ j) : gb x j = false := BitVec.getLsbD_of_ge _ _ h
/-- a set of numbers below 32 as an int -/
theorem or_set {x : Int32} {k j : Nat} (hk : k < 32) (hj : j < 32) : gb (x ||| (nI 1 <<< (nI k &&& 31))) j = (gb x j || decide (j = k)) := by rw [gb_or, gb_1 k hk j hj]
/-- the lowest bit -/
theorem low_b {x : Int32} {j : Nat} (hj : j < 32) : gb (x &&& -x) j = true ↔ (gb x j = true ∧ ∀ i, i < j → gb x i = false) := by
  rw [gb_and]
  have e : gb (-x) j = (gb x j ^^ decide (∃ i, i < j ∧ gb x i = true)) := by
    rw [gb, Int32.toBitVec_neg, BitVec.getLsbD_neg]
    simp [hj]
  rw [e]
  constructor
  · intro h
    rw [Bool.and_eq_true] at h
    refine ⟨h.1, fun i hi => ?_⟩
    have h2 := h.2
    rw [h.1] at h2
    cases hq : gb x i with
    | false => rfl
    | true => rw [decide_eq_true (⟨i, hi, hq⟩ : ∃ i, i < j ∧ gb x i = true)] at h2; cases h2
  · intro h
    rw [h.1, decide_eq_false (fun q => by obtain ⟨i, hi, hq⟩ := q; rw [h.2 i hi] at hq; cases hq)]
    rfl
