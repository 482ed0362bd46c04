/-! ===== table: which cells follow, by bits ===== -/
section HD
def nib (a b c d : Bool) : Int32 := (if a then nI 1 else nI 0) ||| ((if b then nI 2 else nI 0) ||| ((if c then nI 4 else nI 0) ||| (if d then nI 8 else nI 0)))
def six (a b c d e f : Bool) : Int32 := (if a then nI 1 else nI 0) ||| ((if b then nI 16 else nI 0) ||| ((if c then nI 256 else nI 0) ||| ((if d then nI 4096 else nI 0) ||| ((if e then nI 65536 else nI 0) ||| (if f then nI 1048576 else nI 0)))))
theorem nib_b : ∀ a b c d : Bool, ∀ j, j < 32 → gb (nib a b c d) j = [a, b, c, d].getD j false := by decide +kernel
theorem nib_m : ∀ a b c d : Bool, ∀ j, j < 32 → gb (nib a b c d * 1118481) j = (decide (j < 24) && [a, b, c, d].getD (j % 4) false) := by decide +kernel
theorem six_b : ∀ a b c d e f : Bool, ∀ j, j < 32 → gb (six a b c d e f) j = (decide (j % 4 = 0) && [a, b, c, d, e, f].getD (j / 4) false) := by decide +kernel
theorem six_m : ∀ a b c d e f : Bool, ∀ j, j < 32 → gb (six a b c d e f * nI 15) j = [a, b, c, d, e, f].getD (j / 4) false := by decide +kernel
theorem m_15 : ∀ j, j < 32 → gb (nI 15) j = decide (j < 4) := by decide +kernel
theorem m_11 : ∀ j, j < 32 → gb 1118481 j = decide (j % 4 = 0 ∧ j < 24) := by decide +kernel
theorem gd_0 {α : Type} {l : List α} {a : α} {j : Nat} (h : l.length ≤ j) : l.getD j a = a := by
  rw [List.getD_eq_getElem?_getD, List.getElem?_eq_none h]
  rfl
theorem and15 (y : Int32) : y &&& nI 15 = nib (gb y 0) (gb y 1) (gb y 2) (gb y 3) := by
  refine gb_ext fun j hj => ?_
  rw [gb_and, nib_b _ _ _ _ j hj, m_15 j hj]
  by_cases h : j < 4
  · rw [decide_eq_true h, Bool.and_true]
    match j, h with
    | 0, _ => rfl
    | 1, _ => rfl
    | 2, _ => rfl
    | 3, _ => rfl
  · rw [decide_eq_false h, Bool.and_false, gd_0 (Nat.not_lt.mp h)]
theorem and11 (y : Int32) : y &&& 1118481 = six (gb y 0) (gb y 4) (gb y 8) (gb y 12) (gb y 16) (gb y 20) := by
  refine gb_ext fun j hj => ?_
  rw [gb_and, six_b _ _ _ _ _ _ j hj, m_11 j hj]
  by_cases h0 : j % 4 = 0
  · rw [decide_eq_true h0, Bool.true_and]
    by_cases h : j < 24
    · rw [decide_eq_true ⟨h0, h⟩, Bool.and_true]
      obtain ⟨k, hk, rfl⟩ : ∃ k, k < 6 ∧ j = 4 * k := ⟨j / 4, by omega, by omega⟩
      rw [show 4 * k / 4 = k by omega]
      match k, hk with
      | 0, _ => rfl
      | 1, _ => rfl
      | 2, _ => rfl
      | 3, _ => rfl
      | 4, _ => rfl
      | 5, _ => rfl
    · rw [decide_eq_false (fun z => h z.2), Bool.and_false, gd_0 (show 6 ≤ j / 4 by omega)]
  · rw [decide_eq_false h0, Bool.false_and, decide_eq_false (fun z => h0 z.1), Bool.and_false]
theorem gb_sr {x : Int32} {s c : Nat} (h : s + c < 32) : gb (x >>> (nI s &&& 31)) c = gb x (s + c) := by
  obtain ⟨h1, h2⟩ := sh_j s (by omega)
  rw [h1, gb, Int32.toBitVec_shiftRight]
  show (x.toBitVec.sshiftRight ((nI s).toBitVec.smod 32).toNat).getLsbD c = gb x (s + c)
  rw [h2, BitVec.getLsbD_sshiftRight, if_pos h, decide_eq_false (by omega)]
  rfl
theorem gb_clO {x : Int32} {c : Nat} (hc : c < 32) : gb (clO x) c = true ↔ (c < 24 ∧ ∃ d, d < 24 ∧ d % 4 = c % 4 ∧ gb x d = true) := by
  unfold clO
  rw [and15, nib_m _ _ _ _ c hc, Bool.and_eq_true, decide_eq_true_iff]
  refine and_congr_right fun h => ?_
  generalize hf : (x ||| (x >>> (nI 8 &&& 31))) ||| (x >>> (nI 16 &&& 31)) = f
  have h4 : c % 4 < 4 := by omega
  generalize c % 4 = i at *
  have e : ∀ F : Int32, [gb F 0, gb F 1, gb F 2, gb F 3].getD i false = gb F i := fun F => by
    match i, h4 with
    | 0, _ => rfl
    | 1, _ => rfl
    | 2, _ => rfl
    | 3, _ => rfl
  have ef : ∀ k, k < 8 → (gb f k = true ↔ (gb x k = true ∨ gb x (8 + k) = true ∨ gb x (16 + k) = true)) := fun k hk => by
    rw [← hf, gb_or, gb_or, gb_sr (by omega), gb_sr (by omega), Bool.or_eq_true, Bool.or_eq_true, or_assoc]
  rw [e, gb_or, gb_sr (by omega), Bool.or_eq_true, ef i (by omega), ef (4 + i) (by omega)]
  constructor
  · intro z
    rcases z with (z | z | z) | z | z | z
    · exact ⟨i, by omega, by omega, z⟩
    · exact ⟨8 + i, by omega, by omega, z⟩
    · exact ⟨16 + i, by omega, by omega, z⟩
    · exact ⟨4 + i, by omega, by omega, z⟩
    · exact ⟨8 + (4 + i), by omega, by omega, z⟩
    · exact ⟨16 + (4 + i), by omega, by omega, z⟩
  · intro ⟨d, h1, h2, h3⟩
    have q : d = i ∨ d = 8 + i ∨ d = 16 + i ∨ d = 4 + i ∨ d = 8 + (4 + i) ∨ d = 16 + (4 + i) := by omega
    rcases q with q | q | q | q | q | q
    · exact Or.inl (Or.inl (q ▸ h3))
    · exact Or.inl (Or.inr (Or.inl (q ▸ h3)))
    · exact Or.inl (Or.inr (Or.inr (q ▸ h3)))
    · exact Or.inr (Or.inl (q ▸ h3))
    · exact Or.inr (Or.inr (Or.inl (q ▸ h3)))
    · exact Or.inr (Or.inr (Or.inr (q ▸ h3)))
theorem gb_rwO {x : Int32} {c : Nat} (hc : c < 32) : gb (rwO x) c = true ↔ (c < 24 ∧ ∃ d, d < 24 ∧ d / 4 = c / 4 ∧ gb x d = true) := by
  unfold rwO
  rw [and11, six_m _ _ _ _ _ _ c hc]
  by_cases h : c < 24
  · generalize hf : (x ||| (x >>> (nI 1 &&& 31))) = f
    have h6 : c / 4 < 6 := by omega
    generalize c / 4 = i at *
    have e : ∀ F : Int32, [gb F 0, gb F 4, gb F 8, gb F 12, gb F 16, gb F 20].getD i false = gb F (4 * i) := fun F => by
      match i, h6 with
      | 0, _ => rfl
      | 1, _ => rfl
      | 2, _ => rfl
      | 3, _ => rfl
      | 4, _ => rfl
      | 5, _ => rfl
    have ef : ∀ k, k < 24 → (gb f k = true ↔ (gb x k = true ∨ gb x (1 + k) = true)) := fun k hk => by
      rw [← hf, gb_or, gb_sr (by omega), Bool.or_eq_true]
    rw [e, gb_or, gb_sr (by omega), Bool.or_eq_true, ef (4 * i) (by omega), ef (2 + 4 * i) (by omega)]
    constructor
    · intro z
      refine ⟨h, ?_⟩
      rcases z with (z | z) | z | z
      · exact ⟨4 * i, by omega, by omega, z⟩
      · exact ⟨1 + 4 * i, by omega, by omega, z⟩
      · exact ⟨2 + 4 * i, by omega, by omega, z⟩
      · exact ⟨1 + (2 + 4 * i), by omega, by omega, z⟩
    · intro ⟨_, d, h1, h2, h3⟩
      have q : d = 4 * i ∨ d = 1 + 4 * i ∨ d = 2 + 4 * i ∨ d = 1 + (2 + 4 * i) := by omega
      rcases q with q | q | q | q
      · exact Or.inl (Or.inl (q ▸ h3))
      · exact Or.inl (Or.inr (q ▸ h3))
      · exact Or.inr (Or.inl (q ▸ h3))
      · exact Or.inr (Or.inr (q ▸ h3))
  · rw [gd_0 (show 6 ≤ c / 4 by omega)]
    exact ⟨fun z => (by cases z), fun z => absurd z.1 h⟩
theorem gb_rwC : ∀ j, j < 24 → ∀ c, c < 32 → gb (rwC j) c = decide (c / 4 = j / 4) := by decide +kernel
theorem gb_clC : ∀ j, j < 24 → ∀ c, c < 32 → gb (clC j) c = decide (c < 24 ∧ c % 4 = j % 4) := by decide +kernel
theorem gb_ne0 {y : Int32} : (¬ y = 0) ↔ ∃ c, gb y c = true := by
  constructor
  · intro h
    refine Classical.byContradiction fun z => h (gb_ext fun j hj => ?_)
    rw [show gb 0 j = false from gb_0 j]
    cases hz : gb y j with
    | true => exact absurd ⟨j, hz⟩ z
    | false => rfl
  · intro ⟨c, hc⟩ h
    rw [h, show gb 0 c = false from gb_0 c] at hc
    cases hc
theorem gb_oth {x : Int32} {j c : Nat} (hj : j < 24) : gb (oth x j) c = true ↔ (gb x c = true ∧ c ≠ j) := by
  by_cases hc : c < 32
  · rw [gb_and, gb_n1 j (by omega) c hc, Bool.and_eq_true, decide_eq_true_iff]
  · rw [gb_hi (by omega), gb_hi (by omega)]
    exact ⟨fun z => (by cases z), fun z => by cases z.1⟩
/-! a search by rounds -/
def bfG (hit : Int32 → Bool) (nx : Int32 → Int32) : Nat → Int32 → Int32 → Bool
  | 0, _, _ => false
  | k + 1, r, old => if r = old then false else if hit r = true then true else bfG hit nx k (nx r) r
theorem csF_b {ps ot col : Int32} : ∀ k r old, csF ps ot col k r old = bfG (fun r => !decide ((clO (r &&& ot) &&& col) = 0)) (fun r => r ||| rwO (clO (r &&& ot) &&& ot &&& ps)) k r old
  | 0, _, _ => rfl
  | k + 1, r, old => by
    rw [csF, bfG, csF_b k]
    by_cases h1 : r = old
    · rw [if_pos h1, if_pos h1]
    · rw [if_neg h1, if_neg h1]
      by_cases h2 : (clO (r &&& ot) &&& col) = 0
      · rw [if_pos h2, if_neg (by rw [decide_eq_true h2]; decide)]
      · rw [if_neg h2, if_pos (by rw [decide_eq_false h2]; rfl)]
theorem cgF_b {ps ot row : Int32} : ∀ k r old, cgF ps ot row k r old = bfG (fun r => !decide ((rwO (r &&& ot &&& ps) &&& row) = 0)) (fun r => r ||| clO (rwO (r &&& ot &&& ps) &&& ot)) k r old
  | 0, _, _ => rfl
  | k + 1, r, old => by
    rw [cgF, bfG, cgF_b k]
    by_cases h1 : r = old
    · rw [if_pos h1, if_pos h1]
    · rw [if_neg h1, if_neg h1]
      by_cases h2 : (rwO (r &&& ot &&& ps) &&& row) = 0
      · rw [if_pos h2, if_neg (by rw [decide_eq_true h2]; decide)]
      · rw [if_neg h2, if_pos (by rw [decide_eq_false h2]; rfl)]
theorem bf_ok {R : Nat → Nat → Prop} {V : Int32 → Nat → Bool} {ok : Int32 → Prop} {hit : Int32 → Bool} {nx : Int32 → Int32} {near : Nat → Bool} {s g : Nat} (hne : ∀ r v, V r v = true → near v = true) (hn10 : ∀ v, near v = true → v < 10) (hR : ∀ a b, R a b → a < 10 ∧ b < 10) (hg : near g = false) (hhit : ∀ r, ok r → (hit r = true ↔ ∃ a, V r a = true ∧ R a g)) (hnx : ∀ r, ok r → ok (nx r) ∧ ∀ b, V (nx r) b = true ↔ (V r b = true ∨ ∃ a u, V r a = true ∧ R a u ∧ R u b)) (hext : ∀ r r', ok r → ok r' → (∀ v, V r v = V r' v) → r = r') (hsz : ct near 10 ≤ 6) : ∀ k r old, ok r → ok old → (∀ v, V old v = true → V r v = true) → (∀ a u b, V old a = true → R a u → R u b → V r b = true) → (¬ ∃ a, V old a = true ∧ R a g) → V r s = true → (∀ v, V r v = true → rch0 R s v) → 6 ≤ k + ct (V old) 10 → (bfG hit nx k r old = true ↔ rch0 R s g) := by
  have stop : ∀ r, ok r → (∀ a u b, V r a = true → R a u → R u b → V r b = true) → (¬ ∃ a, V r a = true ∧ R a g) → V r s = true → ¬ rch0 R s g := fun r h1 h2 h3 h4 h5 => by
    have q := h5 (fun v => V r v = true ∨ ∃ a, V r a = true ∧ R a v) (Or.inl h4) (fun a b _ _ ha hab => by
      rcases ha with ha | ⟨a', ha1, ha2⟩
      · exact Or.inr ⟨a, ha, hab⟩
      · exact Or.inl (h2 a' a b ha1 ha2 hab))
    rcases q with q | q
    · rw [hne r g q] at hg; cases hg
    · exact h3 q
  have neq : ∀ r old, ok r → ok old → (∀ v, V old v = true → V r v = true) → ¬ r = old → ct (V old) 10 < ct (V r) 10 := fun r old h1 h2 h3 h4 => by
    have q : ∃ v, V r v = true ∧ V old v = false := Classical.byContradiction fun z => h4 (hext r old h1 h2 (fun v => by
      cases hz : V r v with
      | true =>
        cases hy : V old v with
        | true => rfl
        | false => exact absurd ⟨v, hz, hy⟩ z
      | false =>
        cases hy : V old v with
        | true => rw [h3 v hy] at hz; cases hz
        | false => rfl))
    obtain ⟨v, q1, q2⟩ := q
    exact ct_lt (p := V old) (q := V r) h3 (hn10 v (hne r v q1)) q2 q1
  intro k
  induction k with
  | zero =>
    intro r old h1 h2 h3 h4 h5 h6 h7 h8
    have e : r = old := Classical.byContradiction fun z => by
      have q1 := neq r old h1 h2 h3 z
      have q2 := ct_imp (p := V r) (q := near) (fun v hv => hne r v hv) 10
      omega
    subst e
    exact ⟨fun z => (by cases z), fun z => absurd z (stop r h1 h4 h5 h6)⟩
  | succ k ih =>
    intro r old h1 h2 h3 h4 h5 h6 h7 h8
    rw [bfG]
    by_cases e : r = old
    · rw [if_pos e]
      subst e
      exact ⟨fun z => (by cases z), fun z => absurd z (stop r h1 h4 h5 h6)⟩
    · rw [if_neg e]
      by_cases hh : hit r = true
      · rw [if_pos hh]
        obtain ⟨a, a1, a2⟩ := (hhit r h1).mp hh
        exact ⟨fun _ T hT hc => hc a g (hR a g a2).1 (hR a g a2).2 (h7 a a1 T hT hc) a2, fun _ => rfl⟩
      · rw [if_neg hh]
        obtain ⟨n1, n2⟩ := hnx r h1
        have q1 := neq r old h1 h2 h3 e
        refine ih (nx r) r n1 h1 (fun v hv => (n2 v).mpr (Or.inl hv)) (fun a u b ha hu hb => (n2 b).mpr (Or.inr ⟨a, u, ha, hu, hb⟩)) (fun z => hh ((hhit r h1).mpr z)) ((n2 s).mpr (Or.inl h6)) (fun v hv => ?_) (by omega)
        rcases (n2 v).mp hv with z | ⟨a, u, z1, z2, z3⟩
        · exact h7 v z
        · intro T hT hc
          exact hc u v (hR u v z3).1 (hR u v z3).2 (hc a u (hR a u z2).1 (hR a u z2).2 (h7 a z1 T hT hc) z2) z3
theorem stS_10 {hid pos : Nat → Prop} {but a b : Nat} (h : stS hid pos but a b) : a < 10 ∧ b < 10 := by
  have := h.1
  omega
theorem csF_iff {x ps : Int32} {j : Nat} (hj : j < 24) (hx : ∀ c, gb x c = true → c < 24) : csF ps (oth x j) (clC j) 6 (rwC j) (nI 0) = true ↔ rch0 (stS (fun c => gb x c = true) (fun c => gb ps c = true) j) (j / 4) (6 + j % 4) := by
  rw [csF_b]
  have row : ∀ r : Int32, (∀ c, gb r c = true ↔ (c < 24 ∧ gb r (4 * (c / 4)) = true)) → ∀ v, (decide (v < 6) && gb r (4 * v)) = true ↔ (v < 6 ∧ gb r (4 * v) = true) := fun r _ v => by rw [Bool.and_eq_true, decide_eq_true_iff]
  have hz : ∀ (r : Int32) (c : Nat), gb (r &&& oth x j) c = true ↔ (gb r c = true ∧ gb x c = true ∧ c ≠ j) := fun r c => by rw [gb_and, Bool.and_eq_true, gb_oth hj]
  refine bf_ok (V := fun r v => decide (v < 6) && gb r (4 * v)) (ok := fun r => ∀ c, gb r c = true ↔ (c < 24 ∧ gb r (4 * (c / 4)) = true)) (near := fun v => decide (v < 6)) (fun r v h => (Bool.and_eq_true _ _ ▸ h).1) (fun v h => by have := of_decide_eq_true h; omega) (fun a b h => stS_10 h) (decide_eq_false (by omega)) (fun r hr => ?_) (fun r hr => ⟨fun c => ?_, fun b => ?_⟩) (fun r r' hr hr' h => gb_ext fun c hc => ?_) (by decide) 6 (rwC j) (nI 0) (fun c => ?_) (fun c => ?_) (fun v h => ?_) (fun a u b h => ?_) (fun ⟨a, h, _⟩ => ?_) ?_ (fun v h => ?_) (by omega)
  · rw [Bool.not_eq_true', decide_eq_false_iff_not, gb_ne0]
    constructor
    · intro ⟨c, hc⟩
      have c32 := gb_32 hc
      rw [gb_and, Bool.and_eq_true, gb_clO c32, gb_clC j hj c c32, decide_eq_true_iff] at hc
      obtain ⟨⟨h1, d, d1, d2, d3⟩, h2⟩ := hc
      obtain ⟨e1, e2, e3⟩ := (hz r d).mp d3
      refine ⟨d / 4, (row r hr _).mpr ⟨by omega, ((hr d).mp e1).2⟩, Or.inl (by omega), ?_, ?_, Or.inl (by omega)⟩
      · rw [show clN (d / 4) (6 + j % 4) = d by unfold clN; rw [if_pos (by omega)]; omega]; exact e3
      · rw [show clN (d / 4) (6 + j % 4) = d by unfold clN; rw [if_pos (by omega)]; omega]; exact e2
    · intro ⟨a, ha, hs⟩
      obtain ⟨a1, a2⟩ := (row r hr a).mp ha
      obtain ⟨s1, s2, s3, -⟩ := hs
      have ed : clN a (6 + j % 4) = 4 * a + j % 4 := by unfold clN; rw [if_pos a1]; omega
      rw [ed] at s2 s3
      refine ⟨4 * a + j % 4, ?_⟩
      rw [gb_and, Bool.and_eq_true, gb_clO (by omega), gb_clC j hj _ (by omega), decide_eq_true_iff]
      refine ⟨⟨by omega, 4 * a + j % 4, by omega, rfl, (hz r _).mpr ⟨(hr _).mpr ⟨by omega, by rw [show (4 * a + j % 4) / 4 = a by omega]; exact a2⟩, s3, s2⟩⟩, by omega, by omega⟩
  · by_cases c32 : c < 32
    · rw [gb_or, Bool.or_eq_true, gb_or, Bool.or_eq_true, gb_rwO c32, gb_rwO (by omega), hr c, show 4 * (c / 4) / 4 = c / 4 by omega]
      constructor
      · intro z
        rcases z with z | z
        · exact ⟨z.1, Or.inl z.2⟩
        · exact ⟨z.1, Or.inr ⟨by omega, z.2⟩⟩
      · intro ⟨z1, z⟩
        rcases z with z | z
        · exact Or.inl ⟨z1, z⟩
        · exact Or.inr ⟨z1, z.2⟩
    · rw [gb_hi (by omega)]
      exact ⟨fun z => (by cases z), fun z => absurd z.1 (by omega)⟩
  · show (decide (b < 6) && gb (r ||| rwO (clO (r &&& oth x j) &&& oth x j &&& ps)) (4 * b)) = true ↔ ((decide (b < 6) && gb r (4 * b)) = true ∨ _)
    rw [Bool.and_eq_true, decide_eq_true_iff, row r hr b, gb_or, Bool.or_eq_true]
    constructor
    · intro ⟨h1, z⟩
      rcases z with z | z
      · exact Or.inl ⟨h1, z⟩
      · rw [gb_rwO (by omega)] at z
        obtain ⟨-, d, d1, d2, d3⟩ := z
        rw [gb_and, Bool.and_eq_true, gb_and, Bool.and_eq_true, gb_clO (by omega), gb_oth hj] at d3
        obtain ⟨⟨⟨-, e, e1, e2, e3⟩, x1, x2⟩, p1⟩ := d3
        obtain ⟨f1, f2, f3⟩ := (hz r e).mp e3
        have g1 : clN (e / 4) (6 + d % 4) = e := by unfold clN; rw [if_pos (by omega)]; omega
        have g2 : clN (6 + d % 4) b = d := by unfold clN; rw [if_neg (by omega)]; omega
        refine Or.inr ⟨e / 4, 6 + d % 4, (row r hr _).mpr ⟨by omega, ((hr e).mp f1).2⟩, ⟨Or.inl (by omega), by rw [g1]; exact f3, by rw [g1]; exact f2, Or.inl (by omega)⟩, ⟨Or.inr (by omega), by rw [g2]; exact x2, by rw [g2]; exact x1, Or.inr (by rw [g2]; exact p1)⟩⟩
    · intro z
      rcases z with z | ⟨a, u, ha, hau, hub⟩
      · exact ⟨z.1, Or.inl z.2⟩
      · obtain ⟨a1, a2⟩ := (row r hr a).mp ha
        have hu : 6 ≤ u ∧ u < 10 := by have := hau.1; omega
        have hb : b < 6 := by have := hub.1; omega
        have g1 : clN a u = 4 * a + (u - 6) := by unfold clN; rw [if_pos a1]; omega
        have g2 : clN u b = 4 * b + (u - 6) := by unfold clN; rw [if_neg (by omega)]; omega
        obtain ⟨-, s2, s3, -⟩ := hau
        obtain ⟨-, t2, t3, t4⟩ := hub
        rw [g1] at s2 s3
        rw [g2] at t2 t3 t4
        refine ⟨hb, Or.inr ?_⟩
        rw [gb_rwO (by omega)]
        refine ⟨by omega, 4 * b + (u - 6), by omega, by omega, ?_⟩
        rw [gb_and, Bool.and_eq_true, gb_and, Bool.and_eq_true, gb_clO (by omega), gb_oth hj]
        exact ⟨⟨⟨by omega, 4 * a + (u - 6), by omega, by omega, (hz r _).mpr ⟨(hr _).mpr ⟨by omega, by rw [show (4 * a + (u - 6)) / 4 = a by omega]; exact a2⟩, s3, s2⟩⟩, t3, t2⟩, t4.resolve_left (by omega)⟩
  · rw [Bool.eq_iff_iff, hr c, hr' c]
    have q := h (c / 4)
    constructor
    · intro ⟨z1, z2⟩
      have q2 := (row r hr (c / 4)).mpr ⟨by omega, z2⟩
      rw [show (decide (c / 4 < 6) && gb r (4 * (c / 4))) = (decide (c / 4 < 6) && gb r' (4 * (c / 4))) from q] at q2
      exact ⟨z1, ((row r' hr' _).mp q2).2⟩
    · intro ⟨z1, z2⟩
      have q2 := (row r' hr' (c / 4)).mpr ⟨by omega, z2⟩
      rw [← show (decide (c / 4 < 6) && gb r (4 * (c / 4))) = (decide (c / 4 < 6) && gb r' (4 * (c / 4))) from q] at q2
      exact ⟨z1, ((row r hr _).mp q2).2⟩
  · by_cases c32 : c < 32
    · rw [gb_rwC j hj c c32, gb_rwC j hj _ (by omega), decide_eq_true_iff, decide_eq_true_iff, show 4 * (c / 4) / 4 = c / 4 by omega]
      exact ⟨fun z => ⟨by omega, z⟩, fun z => z.2⟩
    · rw [gb_hi (by omega)]
      exact ⟨fun z => (by cases z), fun z => absurd z.1 (by omega)⟩
  · rw [gb_0, gb_0]
    exact ⟨fun z => (by cases z), fun z => by cases z.2⟩
  · have h2 : (decide (v < 6) && gb (nI 0) (4 * v)) = true := h
    rw [gb_0, Bool.and_false] at h2; cases h2
  · have h2 : (decide (a < 6) && gb (nI 0) (4 * a)) = true := h
    rw [gb_0, Bool.and_false] at h2; cases h2
  · have h2 : (decide (a < 6) && gb (nI 0) (4 * a)) = true := h
    rw [gb_0, Bool.and_false] at h2; cases h2
  · show (decide (j / 4 < 6) && gb (rwC j) (4 * (j / 4))) = true
    rw [gb_rwC j hj _ (by omega), decide_eq_true (by omega), decide_eq_true (by omega)]; rfl
  · have h2 : (decide (v < 6) && gb (rwC j) (4 * v)) = true := h
    rw [Bool.and_eq_true, decide_eq_true_iff] at h2
    rw [gb_rwC j hj _ (by omega), decide_eq_true_iff] at h2
    rw [show v = j / 4 by omega]
    exact fun T hT _ => hT
theorem cgF_iff {x ps : Int32} {j : Nat} (hj : j < 24) (hx : ∀ c, gb x c = true → c < 24) : cgF ps (oth x j) (rwC j) 6 (clC j) (nI 0) = true ↔ rch0 (stS (fun c => gb x c = true) (fun c => gb ps c = true) j) (6 + j % 4) (j / 4) := by
  rw [cgF_b]
  have row : ∀ r : Int32, (∀ c, gb r c = true ↔ (c < 24 ∧ gb r (c % 4) = true)) → ∀ v, (decide (6 ≤ v ∧ v < 10) && gb r (v - 6)) = true ↔ ((6 ≤ v ∧ v < 10) ∧ gb r (v - 6) = true) := fun r _ v => by rw [Bool.and_eq_true, decide_eq_true_iff]
  have hz : ∀ (r : Int32) (c : Nat), gb (r &&& oth x j &&& ps) c = true ↔ (gb r c = true ∧ (gb x c = true ∧ c ≠ j) ∧ gb ps c = true) := fun r c => by rw [gb_and, Bool.and_eq_true, gb_and, Bool.and_eq_true, gb_oth hj, and_assoc]
  refine bf_ok (V := fun r v => decide (6 ≤ v ∧ v < 10) && gb r (v - 6)) (ok := fun r => ∀ c, gb r c = true ↔ (c < 24 ∧ gb r (c % 4) = true)) (near := fun v => decide (6 ≤ v ∧ v < 10)) (fun r v h => (Bool.and_eq_true _ _ ▸ h).1) (fun v h => by have := of_decide_eq_true h; omega) (fun a b h => stS_10 h) (decide_eq_false (by omega)) (fun r hr => ?_) (fun r hr => ⟨fun c => ?_, fun b => ?_⟩) (fun r r' hr hr' h => gb_ext fun c hc => ?_) (by decide) 6 (clC j) (nI 0) (fun c => ?_) (fun c => ?_) (fun v h => ?_) (fun a u b h => ?_) (fun ⟨a, h, _⟩ => ?_) ?_ (fun v h => ?_) (by omega)
  · rw [Bool.not_eq_true', decide_eq_false_iff_not, gb_ne0]
    constructor
    · intro ⟨c, hc⟩
      have c32 := gb_32 hc
      rw [gb_and, Bool.and_eq_true, gb_rwO c32, gb_rwC j hj c c32, decide_eq_true_iff] at hc
      obtain ⟨⟨h1, d, d1, d2, d3⟩, h2⟩ := hc
      obtain ⟨e1, ⟨e2, e3⟩, e4⟩ := (hz r d).mp d3
      have g1 : clN (6 + d % 4) (j / 4) = d := by unfold clN; rw [if_neg (by omega)]; omega
      refine ⟨6 + d % 4, (row r hr _).mpr ⟨by omega, by rw [show 6 + d % 4 - 6 = d % 4 by omega]; exact ((hr d).mp e1).2⟩, Or.inr (by omega), by rw [g1]; exact e3, by rw [g1]; exact e2, Or.inr (by rw [g1]; exact e4)⟩
    · intro ⟨a, ha, hs⟩
      obtain ⟨a1, a2⟩ := (row r hr a).mp ha
      obtain ⟨s1, s2, s3, s4⟩ := hs
      have ed : clN a (j / 4) = 4 * (j / 4) + (a - 6) := by unfold clN; rw [if_neg (by omega)]; omega
      rw [ed] at s2 s3 s4
      refine ⟨4 * (j / 4) + (a - 6), ?_⟩
      rw [gb_and, Bool.and_eq_true, gb_rwO (by omega), gb_rwC j hj _ (by omega), decide_eq_true_iff]
      refine ⟨⟨by omega, 4 * (j / 4) + (a - 6), by omega, rfl, (hz r _).mpr ⟨(hr _).mpr ⟨by omega, by rw [show (4 * (j / 4) + (a - 6)) % 4 = a - 6 by omega]; exact a2⟩, ⟨s3, s2⟩, s4.resolve_left (by omega)⟩⟩, by omega⟩
  · by_cases c32 : c < 32
    · rw [gb_or, Bool.or_eq_true, gb_or, Bool.or_eq_true, gb_clO c32, gb_clO (by omega), hr c, show c % 4 % 4 = c % 4 by omega]
      constructor
      · intro z
        rcases z with z | z
        · exact ⟨z.1, Or.inl z.2⟩
        · exact ⟨z.1, Or.inr ⟨by omega, z.2⟩⟩
      · intro ⟨z1, z⟩
        rcases z with z | z
        · exact Or.inl ⟨z1, z⟩
        · exact Or.inr ⟨z1, z.2⟩
    · rw [gb_hi (by omega)]
      exact ⟨fun z => (by cases z), fun z => absurd z.1 (by omega)⟩
  · show (decide (6 ≤ b ∧ b < 10) && gb (r ||| clO (rwO (r &&& oth x j &&& ps) &&& oth x j)) (b - 6)) = true ↔ ((decide (6 ≤ b ∧ b < 10) && gb r (b - 6)) = true ∨ _)
    rw [Bool.and_eq_true, decide_eq_true_iff, row r hr b, gb_or, Bool.or_eq_true]
    constructor
    · intro ⟨h1, z⟩
      rcases z with z | z
      · exact Or.inl ⟨h1, z⟩
      · rw [gb_clO (by omega)] at z
        obtain ⟨-, d, d1, d2, d3⟩ := z
        rw [gb_and, Bool.and_eq_true, gb_rwO (by omega), gb_oth hj] at d3
        obtain ⟨⟨-, e, e1, e2, e3⟩, x1, x2⟩ := d3
        obtain ⟨f1, ⟨f2, f3⟩, f4⟩ := (hz r e).mp e3
        have g1 : clN (6 + e % 4) (d / 4) = e := by unfold clN; rw [if_neg (by omega)]; omega
        have g2 : clN (d / 4) b = d := by unfold clN; rw [if_pos (by omega)]; omega
        refine Or.inr ⟨6 + e % 4, d / 4, (row r hr _).mpr ⟨by omega, by rw [show 6 + e % 4 - 6 = e % 4 by omega]; exact ((hr e).mp f1).2⟩, ⟨Or.inr (by omega), by rw [g1]; exact f3, by rw [g1]; exact f2, Or.inr (by rw [g1]; exact f4)⟩, ⟨Or.inl (by omega), by rw [g2]; exact x2, by rw [g2]; exact x1, Or.inl (by omega)⟩⟩
    · intro z
      rcases z with z | ⟨a, u, ha, hau, hub⟩
      · exact ⟨z.1, Or.inl z.2⟩
      · obtain ⟨a1, a2⟩ := (row r hr a).mp ha
        have hu : u < 6 := by have := hau.1; omega
        have hb : 6 ≤ b ∧ b < 10 := by have := hub.1; omega
        have g1 : clN a u = 4 * u + (a - 6) := by unfold clN; rw [if_neg (by omega)]; omega
        have g2 : clN u b = 4 * u + (b - 6) := by unfold clN; rw [if_pos hu]; omega
        obtain ⟨-, s2, s3, s4⟩ := hau
        obtain ⟨-, t2, t3, -⟩ := hub
        rw [g1] at s2 s3 s4
        rw [g2] at t2 t3
        refine ⟨hb, Or.inr ?_⟩
        rw [gb_clO (by omega)]
        refine ⟨by omega, 4 * u + (b - 6), by omega, by omega, ?_⟩
        rw [gb_and, Bool.and_eq_true, gb_rwO (by omega), gb_oth hj]
        exact ⟨⟨by omega, 4 * u + (a - 6), by omega, by omega, (hz r _).mpr ⟨(hr _).mpr ⟨by omega, by rw [show (4 * u + (a - 6)) % 4 = a - 6 by omega]; exact a2⟩, ⟨s3, s2⟩, s4.resolve_left (by omega)⟩⟩, t3, t2⟩
  · rw [Bool.eq_iff_iff, hr c, hr' c]
    have q : (decide (6 ≤ 6 + c % 4 ∧ 6 + c % 4 < 10) && gb r (6 + c % 4 - 6)) = (decide (6 ≤ 6 + c % 4 ∧ 6 + c % 4 < 10) && gb r' (6 + c % 4 - 6)) := h (6 + c % 4)
    rw [decide_eq_true (by omega), Bool.true_and, Bool.true_and, show 6 + c % 4 - 6 = c % 4 by omega] at q
    rw [q]
  · by_cases c32 : c < 32
    · rw [gb_clC j hj c c32, gb_clC j hj _ (by omega), decide_eq_true_iff, decide_eq_true_iff, show c % 4 % 4 = c % 4 by omega]
      exact ⟨fun z => ⟨z.1, by omega, z.2⟩, fun z => ⟨z.1, z.2.2⟩⟩
    · rw [gb_hi (by omega)]
      exact ⟨fun z => (by cases z), fun z => absurd z.1 (by omega)⟩
  · rw [gb_0, gb_0]
    exact ⟨fun z => (by cases z), fun z => by cases z.2⟩
  · have h2 : (decide (6 ≤ v ∧ v < 10) && gb (nI 0) (v - 6)) = true := h
    rw [gb_0, Bool.and_false] at h2; cases h2
  · have h2 : (decide (6 ≤ a ∧ a < 10) && gb (nI 0) (a - 6)) = true := h
    rw [gb_0, Bool.and_false] at h2; cases h2
  · have h2 : (decide (6 ≤ a ∧ a < 10) && gb (nI 0) (a - 6)) = true := h
    rw [gb_0, Bool.and_false] at h2; cases h2
  · show (decide (6 ≤ 6 + j % 4 ∧ 6 + j % 4 < 10) && gb (clC j) (6 + j % 4 - 6)) = true
    rw [gb_clC j hj _ (by omega), decide_eq_true (by omega), decide_eq_true (by omega)]; rfl
  · have h2 : (decide (6 ≤ v ∧ v < 10) && gb (clC j) (v - 6)) = true := h
    rw [Bool.and_eq_true, decide_eq_true_iff] at h2
    rw [gb_clC j hj _ (by omega), decide_eq_true_iff] at h2
    rw [show v = 6 + j % 4 by omega]
    exact fun T hT _ => hT
theorem nfo_iff {sm ps x : Int32} (hx : ∀ c, gb x c = true → c < 24) : nfo sm ps x ↔ tsafe0 (fun c => gb sm c = true) (fun c => gb x c = true) (fun c => gb ps c = true) := by
  have e : ∀ j, j < 24 → (pNF sm ps x j = false ↔ (gb sm j = true → rch (stS (fun c => gb x c = true) (fun c => gb ps c = true) j) (6 + j % 4) (j / 4) ∨ rch (stS (fun c => gb x c = true) (fun c => gb ps c = true) j) (j / 4) (6 + j % 4))) := fun j hj => by
    unfold pNF
    rw [decide_eq_false_iff_not, csF_iff hj hx, cgF_iff hj hx, sb_iff (by omega)]
    constructor
    · intro z hs
      refine Classical.byContradiction fun y => z ⟨hs, fun w => y (Or.inr (cP_iff.mpr w)), fun w => y (Or.inl (cP_iff.mpr w))⟩
    · intro z ⟨z1, z2, z3⟩
      rcases z z1 with w | w
      · exact z3 (cP_iff.mp w)
      · exact z2 (cP_iff.mp w)
  unfold nfo tsafe0
  constructor
  · intro h c hc hs
    have := fzf_end (p := pNF sm ps x) 24 0 h c (by omega) (by omega)
    exact (e c hc).mp this hs
  · intro h
    have := fzf_at (p := pNF sm ps x) (i := 24) (k := 0) (t := 24) (by omega) (fun j hj => (e j hj).mpr (h j hj))
    rw [this, fzf]
end HD
