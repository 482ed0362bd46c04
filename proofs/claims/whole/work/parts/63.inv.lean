/-! ===== what ties the component (C, CL) to the model (M, ML) ===== -/
def IvD (C M : Nat → Nat → Int32) (d : Nat) : Prop := (C (78 + 3 * d) 0 = M 40 d ∧ rg (M 40 d) 5) ∧ (C (78 + 3 * d) 1 = M 41 d ∧ rg (M 41 d) 3) ∧ (C (78 + 3 * d) 2 = M 42 d) ∧ (C (78 + 3 * d) 5 = M 43 d ∧ rg (M 43 d) 12) ∧ (∀ j, j < tn (M 43 d) → C (78 + 3 * d + 1) j = M 44 (12 * d + j) ∧ (M 44 (12 * d + j) = -2 ∨ 0 ≤ M 44 (12 * d + j))) ∧ (C (78 + 3 * d) 6 = M 45 d) ∧ (C (78 + 3 * d) 7 = M 52 d ∧ (¬ M 52 d = 0 → M 45 d = nI 1)) ∧ (C (78 + 3 * d) 8 = M 46 d ∧ rg (M 46 d) 12) ∧ (∀ j, j < tn (M 46 d) → C (78 + 3 * d + 2) j = M 47 (12 * d + j) ∧ (M 47 (12 * d + j) = -2 ∨ 0 ≤ M 47 (12 * d + j))) ∧ (∀ j, gb (C (78 + 3 * d) 9) j = (decide (j < tn (M 46 d)) && decide (¬ M 53 (12 * d + j) = 0))) ∧ (C (78 + 3 * d) 10 = M 48 d) ∧ (C (78 + 3 * d) 11 = M 49 d) ∧ (C (78 + 3 * d) 12 = M 50 d) ∧ ((M 56 d = 0 ∧ C (78 + 3 * d) 13 = -1) ∨ (¬ M 56 d = 0 ∧ C (78 + 3 * d) 13 = M 51 d ∧ inR (M 51 d) 100))
theorem IvD.b0 {C M : Nat → Nat → Int32} {d : Nat} (h : IvD C M d) : C (78 + 3 * d) 0 = M 40 d ∧ rg (M 40 d) 5 := h.1
theorem IvD.b1 {C M : Nat → Nat → Int32} {d : Nat} (h : IvD C M d) : C (78 + 3 * d) 1 = M 41 d ∧ rg (M 41 d) 3 := h.2.1
theorem IvD.b2 {C M : Nat → Nat → Int32} {d : Nat} (h : IvD C M d) : C (78 + 3 * d) 2 = M 42 d := h.2.2.1
theorem IvD.b5 {C M : Nat → Nat → Int32} {d : Nat} (h : IvD C M d) : C (78 + 3 * d) 5 = M 43 d ∧ rg (M 43 d) 12 := h.2.2.2.1
theorem IvD.tr {C M : Nat → Nat → Int32} {d : Nat} (h : IvD C M d) : ∀ j, j < tn (M 43 d) → C (78 + 3 * d + 1) j = M 44 (12 * d + j) ∧ (M 44 (12 * d + j) = -2 ∨ 0 ≤ M 44 (12 * d + j)) := h.2.2.2.2.1
theorem IvD.b6 {C M : Nat → Nat → Int32} {d : Nat} (h : IvD C M d) : C (78 + 3 * d) 6 = M 45 d := h.2.2.2.2.2.1
theorem IvD.b7 {C M : Nat → Nat → Int32} {d : Nat} (h : IvD C M d) : C (78 + 3 * d) 7 = M 52 d ∧ (¬ M 52 d = 0 → M 45 d = nI 1) := h.2.2.2.2.2.2.1
theorem IvD.b8 {C M : Nat → Nat → Int32} {d : Nat} (h : IvD C M d) : C (78 + 3 * d) 8 = M 46 d ∧ rg (M 46 d) 12 := h.2.2.2.2.2.2.2.1
theorem IvD.ag {C M : Nat → Nat → Int32} {d : Nat} (h : IvD C M d) : ∀ j, j < tn (M 46 d) → C (78 + 3 * d + 2) j = M 47 (12 * d + j) ∧ (M 47 (12 * d + j) = -2 ∨ 0 ≤ M 47 (12 * d + j)) := h.2.2.2.2.2.2.2.2.1
theorem IvD.st {C M : Nat → Nat → Int32} {d : Nat} (h : IvD C M d) : ∀ j, gb (C (78 + 3 * d) 9) j = (decide (j < tn (M 46 d)) && decide (¬ M 53 (12 * d + j) = 0)) := h.2.2.2.2.2.2.2.2.2.1
theorem IvD.b10 {C M : Nat → Nat → Int32} {d : Nat} (h : IvD C M d) : C (78 + 3 * d) 10 = M 48 d := h.2.2.2.2.2.2.2.2.2.2.1
theorem IvD.b11 {C M : Nat → Nat → Int32} {d : Nat} (h : IvD C M d) : C (78 + 3 * d) 11 = M 49 d := h.2.2.2.2.2.2.2.2.2.2.2.1
theorem IvD.b12 {C M : Nat → Nat → Int32} {d : Nat} (h : IvD C M d) : C (78 + 3 * d) 12 = M 50 d := h.2.2.2.2.2.2.2.2.2.2.2.2.1
theorem IvD.se {C M : Nat → Nat → Int32} {d : Nat} (h : IvD C M d) : (M 56 d = 0 ∧ C (78 + 3 * d) 13 = -1) ∨ (¬ M 56 d = 0 ∧ C (78 + 3 * d) 13 = M 51 d ∧ inR (M 51 d) 100) := h.2.2.2.2.2.2.2.2.2.2.2.2.2
def IvS (dc : Nat) (C M : Nat → Nat → Int32) (CL ML : Nat → Nat → Int64) (s : Nat) : Prop := (∀ j, j < 30 → CL (23 + 2 * s + 1) j = ML 63 (30 * s + j)) ∧ (rg (M 62 s) 30) ∧ ((M 60 s = 0 ∧ C (23 + 2 * s) 1 = -1 ∧ C (23 + 2 * s) 2 = nI 0 ∧ C (23 + 2 * s) 3 = -1) ∨ (M 60 s = nI 1 ∧ C (23 + 2 * s) 1 = M 61 s ∧ inR (M 61 s) 4 ∧ C (23 + 2 * s) 2 = M 62 s ∧ C (23 + 2 * s) 3 = -1 ∧ (¬ M 61 s = nI 3 → ∀ j, j < 30 → ¬ CL (23 + 2 * s + 1) j = -9223372036854775808)) ∨ (M 60 s = nI 2 ∧ C (23 + 2 * s) 1 = -1 ∧ C (23 + 2 * s) 2 = nI 0 ∧ C (23 + 2 * s) 3 = M 61 s ∧ inR (M 61 s) dc))
theorem IvS.el {dc : Nat} {C M : Nat → Nat → Int32} {CL ML : Nat → Nat → Int64} {s : Nat} (h : IvS dc C M CL ML s) : ∀ j, j < 30 → CL (23 + 2 * s + 1) j = ML 63 (30 * s + j) := h.1
theorem IvS.sz {dc : Nat} {C M : Nat → Nat → Int32} {CL ML : Nat → Nat → Int64} {s : Nat} (h : IvS dc C M CL ML s) : rg (M 62 s) 30 := h.2.1
theorem IvS.ca {dc : Nat} {C M : Nat → Nat → Int32} {CL ML : Nat → Nat → Int64} {s : Nat} (h : IvS dc C M CL ML s) : (M 60 s = 0 ∧ C (23 + 2 * s) 1 = -1 ∧ C (23 + 2 * s) 2 = nI 0 ∧ C (23 + 2 * s) 3 = -1) ∨ (M 60 s = nI 1 ∧ C (23 + 2 * s) 1 = M 61 s ∧ inR (M 61 s) 4 ∧ C (23 + 2 * s) 2 = M 62 s ∧ C (23 + 2 * s) 3 = -1 ∧ (¬ M 61 s = nI 3 → ∀ j, j < 30 → ¬ CL (23 + 2 * s + 1) j = -9223372036854775808)) ∨ (M 60 s = nI 2 ∧ C (23 + 2 * s) 1 = -1 ∧ C (23 + 2 * s) 2 = nI 0 ∧ C (23 + 2 * s) 3 = M 61 s ∧ inR (M 61 s) dc) := h.2.2
def Iv (dc : Nat) (C M : Nat → Nat → Int32) (CL ML : Nat → Nat → Int64) : Prop := (C 0 9 = M 39 22 ∧ (C 0 9 = 0 ∨ C 0 9 = nI 1)) ∧ (C 4 0 = M 39 18 ∧ C 4 1 = M 39 19 ∧ C 4 2 = M 39 20 ∧ C 4 3 = M 39 21) ∧ (∀ k, 1 ≤ k → k < 8 → C 3 k = M 59 k) ∧ ((∀ k, k < 40 → C 6 k = M 57 k ∧ C 7 k = M 58 k) ∧ C 5 2 = sI (M 57) 40 ∧ C 5 3 = sI (M 58) 40) ∧ (∀ a, a < 6 → ∀ b, b < 6 → gb (C 9 a) b = decide (¬ M 54 (6 * a + b) = 0)) ∧ (∀ s, s < 8 → IvS dc C M CL ML s) ∧ (∀ d, d < dc → IvD C M d) ∧ (∀ d, dc ≤ d → d < 24 → M 43 d = 0 ∧ M 45 d = 0 ∧ M 46 d = 0 ∧ M 48 d = 0 ∧ M 49 d = 0 ∧ M 52 d = 0 ∧ M 56 d = 0) ∧ (∀ b, (b < 6 → gb (C 0 8) b = decide (¬ M 55 b = 0)) ∧ (6 ≤ b → gb (C 0 8) b = false)) ∧ (∀ b, b < 6 → C 11 b = M 68 b) ∧ (C 15 5 = M 39 42 ∧ (¬ M 39 42 = 0 → ∀ c, c < 24 → C 17 c = M 70 c ∧ rg (C 17 c) 288 ∧ gb (C 15 4) c = decide (¬ M 73 c = 0))) ∧ (dc ≤ 24 ∧ C 0 7 = nI dc ∧ M 39 17 = nI dc) ∧ (∀ x, 78 + 3 * dc ≤ x → ∀ j, C x j = 0 ∧ CL x j = 0)
theorem Iv.k1 {dc : Nat} {C M : Nat → Nat → Int32} {CL ML : Nat → Nat → Int64} (h : Iv dc C M CL ML) : C 0 9 = M 39 22 ∧ (C 0 9 = 0 ∨ C 0 9 = nI 1) := h.1
theorem Iv.k2 {dc : Nat} {C M : Nat → Nat → Int32} {CL ML : Nat → Nat → Int64} (h : Iv dc C M CL ML) : C 4 0 = M 39 18 ∧ C 4 1 = M 39 19 ∧ C 4 2 = M 39 20 ∧ C 4 3 = M 39 21 := h.2.1
theorem Iv.k3 {dc : Nat} {C M : Nat → Nat → Int32} {CL ML : Nat → Nat → Int64} (h : Iv dc C M CL ML) : ∀ k, 1 ≤ k → k < 8 → C 3 k = M 59 k := h.2.2.1
theorem Iv.k4 {dc : Nat} {C M : Nat → Nat → Int32} {CL ML : Nat → Nat → Int64} (h : Iv dc C M CL ML) : (∀ k, k < 40 → C 6 k = M 57 k ∧ C 7 k = M 58 k) ∧ C 5 2 = sI (M 57) 40 ∧ C 5 3 = sI (M 58) 40 := h.2.2.2.1
theorem Iv.k5 {dc : Nat} {C M : Nat → Nat → Int32} {CL ML : Nat → Nat → Int64} (h : Iv dc C M CL ML) : ∀ a, a < 6 → ∀ b, b < 6 → gb (C 9 a) b = decide (¬ M 54 (6 * a + b) = 0) := h.2.2.2.2.1
theorem Iv.k6 {dc : Nat} {C M : Nat → Nat → Int32} {CL ML : Nat → Nat → Int64} (h : Iv dc C M CL ML) : ∀ s, s < 8 → IvS dc C M CL ML s := h.2.2.2.2.2.1
theorem Iv.k7 {dc : Nat} {C M : Nat → Nat → Int32} {CL ML : Nat → Nat → Int64} (h : Iv dc C M CL ML) : ∀ d, d < dc → IvD C M d := h.2.2.2.2.2.2.1
theorem Iv.k8 {dc : Nat} {C M : Nat → Nat → Int32} {CL ML : Nat → Nat → Int64} (h : Iv dc C M CL ML) : ∀ d, dc ≤ d → d < 24 → M 43 d = 0 ∧ M 45 d = 0 ∧ M 46 d = 0 ∧ M 48 d = 0 ∧ M 49 d = 0 ∧ M 52 d = 0 ∧ M 56 d = 0 := h.2.2.2.2.2.2.2.1
theorem Iv.k9 {dc : Nat} {C M : Nat → Nat → Int32} {CL ML : Nat → Nat → Int64} (h : Iv dc C M CL ML) : ∀ b, (b < 6 → gb (C 0 8) b = decide (¬ M 55 b = 0)) ∧ (6 ≤ b → gb (C 0 8) b = false) := h.2.2.2.2.2.2.2.2.1
theorem Iv.k10 {dc : Nat} {C M : Nat → Nat → Int32} {CL ML : Nat → Nat → Int64} (h : Iv dc C M CL ML) : ∀ b, b < 6 → C 11 b = M 68 b := h.2.2.2.2.2.2.2.2.2.1
theorem Iv.k11 {dc : Nat} {C M : Nat → Nat → Int32} {CL ML : Nat → Nat → Int64} (h : Iv dc C M CL ML) : C 15 5 = M 39 42 ∧ (¬ M 39 42 = 0 → ∀ c, c < 24 → C 17 c = M 70 c ∧ rg (C 17 c) 288 ∧ gb (C 15 4) c = decide (¬ M 73 c = 0)) := h.2.2.2.2.2.2.2.2.2.2.1
theorem Iv.k12 {dc : Nat} {C M : Nat → Nat → Int32} {CL ML : Nat → Nat → Int64} (h : Iv dc C M CL ML) : dc ≤ 24 ∧ C 0 7 = nI dc ∧ M 39 17 = nI dc := h.2.2.2.2.2.2.2.2.2.2.2.1
theorem Iv.k13 {dc : Nat} {C M : Nat → Nat → Int32} {CL ML : Nat → Nat → Int64} (h : Iv dc C M CL ML) : ∀ x, 78 + 3 * dc ≤ x → ∀ j, C x j = 0 ∧ CL x j = 0 := h.2.2.2.2.2.2.2.2.2.2.2.2
abbrev Inv (dc : Nat) (I : Nat → Nat → Int32) (L : Nat → Nat → Int64) : Prop := Iv dc I I L L
section IVC
variable {dc : Nat} {C M C' M' : Nat → Nat → Int32} {CL ML CL' ML' : Nat → Nat → Int64}
theorem IvD.c {d : Nat} (h : IvD C M d) (e : ∀ j, C' (78 + 3 * d) j = C (78 + 3 * d) j) (e1 : ∀ j, C' (78 + 3 * d + 1) j = C (78 + 3 * d + 1) j) (e2 : ∀ j, C' (78 + 3 * d + 2) j = C (78 + 3 * d + 2) j) (m : ∀ x, (x = 40 ∨ x = 41 ∨ x = 42 ∨ x = 43 ∨ x = 45 ∨ x = 46 ∨ x = 48 ∨ x = 49 ∨ x = 50 ∨ x = 51 ∨ x = 52 ∨ x = 56) → M' x d = M x d) (m2 : ∀ x j, (x = 44 ∨ x = 47 ∨ x = 53) → j < 12 → M' x (12 * d + j) = M x (12 * d + j)) : IvD C' M' d := by
  obtain ⟨h0, h1, h2, h5, ht, h6, h7, h8, ha, hs, h10, h11, h12, hse⟩ := h
  have l43 := h5.2.2
  have l46 := h8.2.2
  refine ⟨?_, ?_, ?_, ?_, ?_, ?_, ?_, ?_, ?_, ?_, ?_, ?_, ?_, ?_⟩
  · rw [e, m 40 (by omega)]; exact h0
  · rw [e, m 41 (by omega)]; exact h1
  · rw [e, m 42 (by omega)]; exact h2
  · rw [e, m 43 (by omega)]; exact h5
  · intro j hj
    rw [m 43 (by omega)] at hj
    rw [e1, m2 44 j (by omega) (by omega)]; exact ht j hj
  · rw [e, m 45 (by omega)]; exact h6
  · rw [e, m 52 (by omega), m 45 (by omega)]; exact h7
  · rw [e, m 46 (by omega)]; exact h8
  · intro j hj
    rw [m 46 (by omega)] at hj
    rw [e2, m2 47 j (by omega) (by omega)]; exact ha j hj
  · intro j
    rw [e, m 46 (by omega), hs j]
    by_cases hj : j < tn (M 46 d)
    · rw [m2 53 j (by omega) (by omega)]
    · rw [decide_eq_false hj, Bool.false_and, Bool.false_and]
  · rw [e, m 48 (by omega)]; exact h10
  · rw [e, m 49 (by omega)]; exact h11
  · rw [e, m 50 (by omega)]; exact h12
  · rw [e, m 56 (by omega), m 51 (by omega)]; exact hse
theorem IvS.c {s : Nat} (hs : s < 8) (h : IvS dc C M CL ML s) (e : ∀ j, 1 ≤ j → j ≤ 3 → C' (23 + 2 * s) j = C (23 + 2 * s) j) (el : ∀ j, j < 30 → CL' (23 + 2 * s + 1) j = CL (23 + 2 * s + 1) j) (m : ∀ x, (x = 60 ∨ x = 61 ∨ x = 62) → M' x s = M x s) (ml : ∀ j, j < 30 → ML' 63 (30 * s + j) = ML 63 (30 * s + j)) : IvS dc C' M' CL' ML' s := by
  obtain ⟨h1, h2, h3⟩ := h
  refine ⟨fun j hj => by rw [el j hj, ml j hj]; exact h1 j hj, by rw [m 62 (by omega)]; exact h2, ?_⟩
  rw [m 60 (by omega), m 61 (by omega), m 62 (by omega), e 1 (by omega) (by omega), e 2 (by omega) (by omega), e 3 (by omega) (by omega)]
  refine h3.imp id (Or.imp ?_ id)
  intro ⟨a1, a2, a3, a4, a5, a6⟩
  exact ⟨a1, a2, a3, a4, a5, fun z j hj => by rw [el j hj]; exact a6 z j hj⟩
theorem K1.c (h : C 0 9 = M 39 22 ∧ (C 0 9 = 0 ∨ C 0 9 = nI 1)) (e : C' 0 9 = C 0 9) (m : M' 39 22 = M 39 22) : C' 0 9 = M' 39 22 ∧ (C' 0 9 = 0 ∨ C' 0 9 = nI 1) := by rw [e, m]; exact h
theorem K2.c (h : C 4 0 = M 39 18 ∧ C 4 1 = M 39 19 ∧ C 4 2 = M 39 20 ∧ C 4 3 = M 39 21) (e : ∀ j, C' 4 j = C 4 j) (m : ∀ j, 18 ≤ j → j ≤ 21 → M' 39 j = M 39 j) : C' 4 0 = M' 39 18 ∧ C' 4 1 = M' 39 19 ∧ C' 4 2 = M' 39 20 ∧ C' 4 3 = M' 39 21 := by rw [e, e, e, e, m 18 (by omega) (by omega), m 19 (by omega) (by omega), m 20 (by omega) (by omega), m 21 (by omega) (by omega)]; exact h
theorem K3.c (h : ∀ k, 1 ≤ k → k < 8 → C 3 k = M 59 k) (e : ∀ j, C' 3 j = C 3 j) (m : ∀ j, M' 59 j = M 59 j) : ∀ k, 1 ≤ k → k < 8 → C' 3 k = M' 59 k := fun k h1 h2 => by rw [e, m]; exact h k h1 h2
theorem K4.c (h : (∀ k, k < 40 → C 6 k = M 57 k ∧ C 7 k = M 58 k) ∧ C 5 2 = sI (M 57) 40 ∧ C 5 3 = sI (M 58) 40) (e : ∀ x j, (x = 5 ∨ x = 6 ∨ x = 7) → C' x j = C x j) (m : ∀ x j, (x = 57 ∨ x = 58) → M' x j = M x j) : (∀ k, k < 40 → C' 6 k = M' 57 k ∧ C' 7 k = M' 58 k) ∧ C' 5 2 = sI (M' 57) 40 ∧ C' 5 3 = sI (M' 58) 40 := by
  refine ⟨fun k hk => by rw [e 6 k (by omega), e 7 k (by omega), m 57 k (by omega), m 58 k (by omega)]; exact h.1 k hk, ?_, ?_⟩
  · rw [e 5 2 (by omega), sI_cong (g := M 57) (fun k _ => m 57 k (by omega))]; exact h.2.1
  · rw [e 5 3 (by omega), sI_cong (g := M 58) (fun k _ => m 58 k (by omega))]; exact h.2.2
theorem K5.c (h : ∀ a, a < 6 → ∀ b, b < 6 → gb (C 9 a) b = decide (¬ M 54 (6 * a + b) = 0)) (e : ∀ j, C' 9 j = C 9 j) (m : ∀ j, M' 54 j = M 54 j) : ∀ a, a < 6 → ∀ b, b < 6 → gb (C' 9 a) b = decide (¬ M' 54 (6 * a + b) = 0) := fun a ha b hb => by rw [e, m]; exact h a ha b hb
theorem K6.c (h : ∀ s, s < 8 → IvS dc C M CL ML s) (e : ∀ x j, 23 ≤ x → x < 39 → C' x j = C x j) (el : ∀ x j, 23 ≤ x → x < 39 → CL' x j = CL x j) (m : ∀ x j, (x = 60 ∨ x = 61 ∨ x = 62) → M' x j = M x j) (ml : ∀ j, ML' 63 j = ML 63 j) : ∀ s, s < 8 → IvS dc C' M' CL' ML' s := fun s hs => (h s hs).c hs (fun j _ _ => e _ _ (by omega) (by omega)) (fun j _ => el _ _ (by omega) (by omega)) (fun x hx => m x s hx) (fun j _ => ml _)
theorem K7.c (hdc : dc ≤ 24) (h : ∀ d, d < dc → IvD C M d) (e : ∀ x j, 78 ≤ x → C' x j = C x j) (m : ∀ x j, 40 ≤ x → x ≤ 56 → x ≠ 54 → x ≠ 55 → M' x j = M x j) : ∀ d, d < dc → IvD C' M' d := fun d hd => (h d hd).c (fun j => e _ _ (by omega)) (fun j => e _ _ (by omega)) (fun j => e _ _ (by omega)) (fun x hx => m x d (by omega) (by omega) (by omega) (by omega)) (fun x j hx _ => m x _ (by omega) (by omega) (by omega) (by omega))
theorem K8.c (h : ∀ d, dc ≤ d → d < 24 → M 43 d = 0 ∧ M 45 d = 0 ∧ M 46 d = 0 ∧ M 48 d = 0 ∧ M 49 d = 0 ∧ M 52 d = 0 ∧ M 56 d = 0) (m : ∀ x d, dc ≤ d → (x = 43 ∨ x = 45 ∨ x = 46 ∨ x = 48 ∨ x = 49 ∨ x = 52 ∨ x = 56) → M' x d = M x d) : ∀ d, dc ≤ d → d < 24 → M' 43 d = 0 ∧ M' 45 d = 0 ∧ M' 46 d = 0 ∧ M' 48 d = 0 ∧ M' 49 d = 0 ∧ M' 52 d = 0 ∧ M' 56 d = 0 := fun d h1 h2 => by
  rw [m 43 d h1 (by omega), m 45 d h1 (by omega), m 46 d h1 (by omega), m 48 d h1 (by omega), m 49 d h1 (by omega), m 52 d h1 (by omega), m 56 d h1 (by omega)]; exact h d h1 h2
theorem K9.c (h : ∀ b, (b < 6 → gb (C 0 8) b = decide (¬ M 55 b = 0)) ∧ (6 ≤ b → gb (C 0 8) b = false)) (e : C' 0 8 = C 0 8) (m : ∀ j, M' 55 j = M 55 j) : ∀ b, (b < 6 → gb (C' 0 8) b = decide (¬ M' 55 b = 0)) ∧ (6 ≤ b → gb (C' 0 8) b = false) := fun b => by rw [e, m]; exact h b
theorem K10.c (h : ∀ b, b < 6 → C 11 b = M 68 b) (e : ∀ j, C' 11 j = C 11 j) (m : ∀ j, M' 68 j = M 68 j) : ∀ b, b < 6 → C' 11 b = M' 68 b := fun b hb => by rw [e, m]; exact h b hb
theorem K11.c (h : C 15 5 = M 39 42 ∧ (¬ M 39 42 = 0 → ∀ c, c < 24 → C 17 c = M 70 c ∧ rg (C 17 c) 288 ∧ gb (C 15 4) c = decide (¬ M 73 c = 0))) (e : ∀ x j, (x = 17 ∨ x = 15) → C' x j = C x j) (m : ∀ x j, (x = 70 ∨ x = 73 ∨ (x = 39 ∧ j = 42)) → M' x j = M x j) : C' 15 5 = M' 39 42 ∧ (¬ M' 39 42 = 0 → ∀ c, c < 24 → C' 17 c = M' 70 c ∧ rg (C' 17 c) 288 ∧ gb (C' 15 4) c = decide (¬ M' 73 c = 0)) := by
  rw [e 15 5 (by omega), m 39 42 (by omega)]
  refine ⟨h.1, fun z c hc => ?_⟩
  rw [e 17 c (by omega), e 15 4 (by omega), m 70 c (by omega), m 73 c (by omega)]
  exact h.2 z c hc
theorem K12.c (h : dc ≤ 24 ∧ C 0 7 = nI dc ∧ M 39 17 = nI dc) (e : C' 0 7 = C 0 7) (m : M' 39 17 = M 39 17) : dc ≤ 24 ∧ C' 0 7 = nI dc ∧ M' 39 17 = nI dc := by rw [e, m]; exact h
theorem K13.c (h : ∀ x, 78 + 3 * dc ≤ x → ∀ j, C x j = 0 ∧ CL x j = 0) (e : ∀ x j, 78 + 3 * dc ≤ x → C' x j = C x j) (el : ∀ x j, 78 + 3 * dc ≤ x → CL' x j = CL x j) : ∀ x, 78 + 3 * dc ≤ x → ∀ j, C' x j = 0 ∧ CL' x j = 0 := fun x hx j => by rw [e x j hx, el x j hx]; exact h x hx j
/-- the relation sees the component's cells of the one, the model's of the other -/
theorem Iv.c (h : Iv dc C M CL ML) (e : ∀ x j, x < 39 ∨ 78 ≤ x → C' x j = C x j) (m : ∀ x j, 39 ≤ x → x < 78 → M' x j = M x j) (el : ∀ x j, x < 39 ∨ 78 ≤ x → CL' x j = CL x j) (ml : ∀ x j, 39 ≤ x → x < 78 → ML' x j = ML x j) : Iv dc C' M' CL' ML' := by
  obtain ⟨h1, h2, h3, h4, h5, h6, h7, h8, h9, h10, h11, h12, h13⟩ := h
  exact ⟨K1.c h1 (e _ _ (by omega)) (m _ _ (by omega) (by omega)), K2.c h2 (fun j => e _ _ (by omega)) (fun j _ _ => m _ _ (by omega) (by omega)), K3.c h3 (fun j => e _ _ (by omega)) (fun j => m _ _ (by omega) (by omega)), K4.c h4 (fun x j _ => e _ _ (by omega)) (fun x j _ => m _ _ (by omega) (by omega)), K5.c h5 (fun j => e _ _ (by omega)) (fun j => m _ _ (by omega) (by omega)), K6.c h6 (fun x j _ _ => e _ _ (by omega)) (fun x j _ _ => el _ _ (by omega)) (fun x j _ => m _ _ (by omega) (by omega)) (fun j => ml _ _ (by omega) (by omega)), K7.c h12.1 h7 (fun x j _ => e _ _ (by omega)) (fun x j _ _ _ _ => m _ _ (by omega) (by omega)), K8.c h8 (fun x d _ _ => m _ _ (by omega) (by omega)), K9.c h9 (e _ _ (by omega)) (fun j => m _ _ (by omega) (by omega)), K10.c h10 (fun j => e _ _ (by omega)) (fun j => m _ _ (by omega) (by omega)), K11.c h11 (fun x j _ => e _ _ (by omega)) (fun x j _ => m _ _ (by omega) (by omega)), K12.c h12 (e _ _ (by omega)) (m _ _ (by omega) (by omega)), K13.c h13 (fun x j _ => e _ _ (by omega)) (fun x j _ => el _ _ (by omega))⟩
theorem Iv.wx (h : Iv dc C M CL ML) : Wx dc C := by
  refine ⟨h.k12.1, h.k12.2.1, fun s hs => ?_, fun d hd => ?_⟩
  · have h1 := h.k6 s hs
    rcases h1.ca with ⟨-, -, a, -⟩ | ⟨-, -, -, a, -⟩ | ⟨-, -, a, -⟩
    · rw [a]; exact rg_nI (by omega) (by omega)
    · rw [a]; exact h1.sz
    · rw [a]; exact rg_nI (by omega) (by omega)
  · have h1 := h.k7 d hd
    rw [h1.b0.1, h1.b1.1, h1.b5.1, h1.b8.1]
    exact ⟨h1.b0.2, h1.b1.2, h1.b5.2, h1.b8.2⟩
theorem Iv.wm (h : Iv dc C M CL ML) : Wm dc M := by
  refine ⟨h.k12.1, h.k12.2.2, fun s hs => ⟨(h.k6 s hs).sz, fun z => ?_⟩, fun d hd => ⟨(h.k7 d hd).b0.2, (h.k7 d hd).b1.2, (h.k7 d hd).b5.2, (h.k7 d hd).b8.2⟩⟩
  rcases (h.k6 s hs).ca with ⟨a, -⟩ | ⟨a, -⟩ | ⟨-, -, -, -, a⟩
  · rw [a] at z; exact absurd z (by decide)
  · rw [a] at z; exact absurd z (by decide)
  · exact a
end IVC

/-! the step of a call: what the component did (I1, L1), what the model did behind it (I2, L2) -/
theorem Inv_of {dc : Nat} {I1 I2 : Nat → Nat → Int32} {L1 L2 : Nat → Nat → Int64} (h : Iv dc I1 I2 L1 L2) (e : ∀ x j, x < 39 ∨ 78 ≤ x → I2 x j = I1 x j) (el : ∀ x j, x < 39 ∨ 78 ≤ x → L2 x j = L1 x j) : Inv dc I2 L2 := h.c e (fun _ _ _ _ => rfl) el (fun _ _ _ _ => rfl)
