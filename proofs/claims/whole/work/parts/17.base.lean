/-! ===== the memory behind the constructors: dc doors ===== -/
section VS2
variable {G : GG} {y : MethodName} {cc : ByteArray} {nL : Nat} {ret : Option FieldType} {dep bc bs pc : Nat} {ls st : List Value} {μ : Mem} {Post : Option Value → Mem → Prop}
theorem v_icN {n : Nat} (hdg : decode cc pc = .ok (.iconst (n : Int), 1)) (hv : Int32.ofInt (n : Int) = nI n) (k : V G y cc nL ret dep bc bs (pc + 1) ls (.int (nI n) :: st) μ Post) : V G y cc nL ret dep bc bs pc ls st μ Post := V.go (fun _ _ _ _ _ _ _ _ _ _ _ _ _ _ _ X hl kk => lv_iconst X.1 X.2.1 hdg hv kk) k
theorem v_lcN0 (hdg : decode cc pc = .ok (.lconst 0, 1)) (k : V G y cc nL ret dep bc bs (pc + 1) ls (.long (lN 0) :: st) μ Post) : V G y cc nL ret dep bc bs pc ls st μ Post := V.go (fun _ _ _ _ _ _ _ _ _ _ _ _ _ _ _ X hl kk => lv_lconst X.1 X.2.1 hdg (by decide) kk) k
theorem v_lcN1 (hdg : decode cc pc = .ok (.lconst 1, 1)) (k : V G y cc nL ret dep bc bs (pc + 1) ls (.long (lN 1) :: st) μ Post) : V G y cc nL ret dep bc bs pc ls st μ Post := V.go (fun _ _ _ _ _ _ _ _ _ _ _ _ _ _ _ X hl kk => lv_lconst X.1 X.2.1 hdg (by decide) kk) k
end VS2
/-- references that never change: (cell, field, cell) -/
def ptrT : List (Nat × Nat × Nat) := [(0, 0, 1), (0, 1, 2), (0, 2, 3), (0, 3, 4), (0, 4, 5), (0, 5, 8), (0, 6, 15), (5, 0, 6), (5, 1, 7), (8, 0, 9), (8, 1, 10), (8, 2, 11), (8, 3, 12), (8, 4, 13), (8, 5, 14), (15, 0, 16), (15, 1, 17), (15, 2, 18), (15, 3, 19), (19, 0, 20), (19, 1, 21), (19, 2, 22), (39, 0, 40), (39, 1, 41), (39, 2, 42), (39, 3, 43), (39, 4, 44), (39, 5, 45), (39, 6, 46), (39, 7, 47), (39, 8, 48), (39, 9, 49), (39, 10, 50), (39, 11, 51), (39, 12, 52), (39, 13, 53), (39, 14, 54), (39, 15, 55), (39, 16, 56), (39, 23, 57), (39, 24, 58), (39, 25, 59), (39, 26, 60), (39, 27, 61), (39, 28, 62), (39, 29, 63), (39, 30, 64), (39, 31, 65), (39, 32, 66), (39, 33, 67), (39, 34, 68), (39, 35, 69), (39, 37, 70), (39, 38, 71), (39, 39, 72), (39, 40, 73), (39, 41, 74), (39, 43, 75), (39, 44, 76), (39, 45, 77)]
def ptrS (k f : Nat) : Option Nat := (ptrT.find? (fun q => q.1 == k && q.2.1 == f)).map (fun q => q.2.2)
def Pc (dc k f : Nat) : Option Nat :=
  if k < 23 then (if k = 1 then (if f < 8 then some (23 + 2 * f) else none) else if k = 2 then (if f < dc then some (78 + 3 * f) else none) else ptrS k f)
  else if k < 39 then (if f = 0 ∧ (k - 23) % 2 = 0 then some (k + 1) else none)
  else if k < 78 then ptrS k f
  else if k < 78 + 3 * dc then (if (k - 78) % 3 = 0 then (if f = 3 then some (k + 1) else if f = 4 then some (k + 2) else none) else none) else none
abbrev Mm (dc : Nat) (I : Nat → Nat → Int32) (L : Nat → Nat → Int64) : Mem := (78 + 3 * dc, I, L, Pc dc)
theorem lay_door {d : Nat} (h : d < 24) : lay (78 + 3 * d) = (1, 14) := by
  simp only [lay]
  rw [if_neg (by omega), if_pos (by omega), if_pos (by omega)]
theorem lay_dt {d : Nat} (h : d < 24) : lay (78 + 3 * d + 1) = (10, 12) := by
  simp only [lay]
  rw [if_neg (by omega), if_pos (by omega), if_neg (by omega)]
theorem lay_da {d : Nat} (h : d < 24) : lay (78 + 3 * d + 2) = (10, 12) := by
  simp only [lay]
  rw [if_neg (by omega), if_pos (by omega), if_neg (by omega)]
theorem lay_shA : ∀ s, s < 8 → lay (23 + 2 * s) = (4, 4) ∧ lay (23 + 2 * s + 1) = (11, 30) := by decide
theorem lay_sh {s : Nat} (h : s < 8) : lay (23 + 2 * s) = (4, 4) := (lay_shA s h).1
theorem lay_se {s : Nat} (h : s < 8) : lay (23 + 2 * s + 1) = (11, 30) := (lay_shA s h).2
theorem Pc_d {dc d : Nat} (h : d < dc) : Pc dc 2 d = some (78 + 3 * d) := by simp [Pc, h]
theorem Pc_s {dc s : Nat} (h : s < 8) : Pc dc 1 s = some (23 + 2 * s) := by simp [Pc, h]
theorem Pc_se {dc s : Nat} (h : s < 8) : Pc dc (23 + 2 * s) 0 = some (23 + 2 * s + 1) := by
  unfold Pc
  rw [if_neg (by omega), if_pos (by omega), if_pos ⟨rfl, by omega⟩]
theorem Pc_dt {dc d : Nat} (h : d < dc) : Pc dc (78 + 3 * d) 3 = some (78 + 3 * d + 1) := by
  unfold Pc
  rw [if_neg (by omega), if_neg (by omega), if_neg (by omega), if_pos (by omega), if_pos (by omega), if_pos rfl]
theorem Pc_da {dc d : Nat} (h : d < dc) : Pc dc (78 + 3 * d) 4 = some (78 + 3 * d + 2) := by
  unfold Pc
  rw [if_neg (by omega), if_neg (by omega), if_neg (by omega), if_pos (by omega), if_pos (by omega), if_neg (by decide), if_pos rfl]
theorem nI_one : nI 1 = 1 := rfl
abbrev inR (b : Int32) (N : Nat) : Prop := ¬ b < 0 ∧ ¬ nI N ≤ b
theorem inR_of {b : Int32} {N : Nat} (hN : N < 2 ^ 31) (h : inR b N) : ∃ j, j < N ∧ b = nI j := by
  rcases pk_ix b hN with h1 | h1 | h1
  · exact absurd h1 h.1
  · exact absurd h1 h.2
  · exact h1
theorem inR_nI {j N : Nat} (h : j < N) (hN : N < 2 ^ 31) : inR (nI j) N := ⟨nI_pos (by omega), nI_ge h hN⟩
abbrev tn (b : Int32) : Nat := b.toNatClampNeg
theorem ix_le {i x : Int32} {z N : Nat} (hx : x = nI z) (hz : z ≤ N) (hN : N < 2 ^ 31) (h : ¬ i < 0 ∧ ¬ x ≤ i) : ix i N (tn i) := by
  subst hx
  obtain ⟨j, hj, rfl⟩ := inR_of (N := z) (by omega) h
  exact ⟨by rw [tn, nI_clamp (by omega)], by rw [tn, nI_clamp (by omega)]; omega, hN⟩
theorem tn_lt {i x : Int32} {z : Nat} (hx : x = nI z) (hz : z < 2 ^ 31) (h : ¬ i < 0 ∧ ¬ x ≤ i) : tn i < z ∧ i = nI (tn i) := by
  have h1 := ix_le hx (Nat.le_refl z) hz h
  exact ⟨h1.2.1, h1.1⟩
theorem ix_R {i : Int32} {N : Nat} (hN : N < 2 ^ 31) (h : inR i N) : ix i N (tn i) := ix_le rfl (Nat.le_refl N) hN h
theorem tn_nI {j : Nat} (h : j < 2 ^ 31) : tn (nI j) = j := nI_clamp h
section TAB
variable {G : GG} {y : MethodName} {cc : ByteArray} {nL : Nat} {ret : Option FieldType} {dep bc bs pc : Nat} {ls st : List Value} {μ : Mem} {Post : Option Value → Mem → Prop}
/-- a switch from 0 on -/
theorem v_tab {dflt : Int} {hi len tgt : Nat} {offs : Array Int} {x : Int32} (tgts : List Nat) (hdg : decode cc pc = .ok (.tableswitch dflt 0 (hi : Int) offs, len)) (hh : hi < 1000) (ht : ∀ j, j < hi + 1 → (offs[j]?).map (fun z => (pc : Int) + z) = (tgts[j]?).map (fun z => (z : Int)) ∧ j < offs.size) (htd : (pc : Int) + dflt = (tgt : Int))
    (k : ∀ j t, j < hi + 1 → tgts[j]? = some t → x = nI j → V G y cc nL ret dep bc bs t ls st μ Post) (kd : (∀ j, j < hi + 1 → ¬ x = nI j) → V G y cc nL ret dep bc bs tgt ls st μ Post) : V G y cc nL ret dep bc bs pc ls (.int x :: st) μ Post := by
  by_cases h : inR x (hi + 1)
  · obtain ⟨j, hj, hx⟩ := inR_of (by omega) h
    obtain ⟨h1, h2⟩ := ht j hj
    obtain ⟨off, ho⟩ : ∃ off, offs[j]? = some off := ⟨offs[j], Array.getElem?_eq_getElem h2⟩
    rw [ho] at h1
    cases htg : tgts[j]? with
    | none => rw [htg] at h1; cases h1
    | some t =>
      rw [htg] at h1
      have h3 : (pc : Int) + off = (t : Int) := Option.some.inj h1
      have hxi : x.toInt = (j : Int) := by rw [hx]; exact nI_toInt (by omega)
      exact v_tabIn hdg (by rw [hxi]; omega) (by rw [hxi]; omega) (by rw [hxi]; simpa using ho) h3 (k j t hj htg hx)
  · have hn : ∀ j, j < hi + 1 → ¬ x = nI j := fun j hj e => h (by rw [e]; exact inR_nI hj (by omega))
    refine v_tabOut hdg ?_ htd (kd hn)
    by_cases h0 : x < 0
    · left
      have := Int32.lt_iff_toInt_lt.mp h0
      simpa using this
    · right
      have h1 : nI (hi + 1) ≤ x := Classical.byContradiction fun q => h ⟨h0, q⟩
      have h2 := Int32.le_iff_toInt_le.mp h1
      rw [nI_toInt (by omega)] at h2
      omega
end TAB
