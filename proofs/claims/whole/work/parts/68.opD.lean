/-! ===== copy, law, truth ===== -/
section WS
variable {G : GG} {dc : Nat} {I : Nat → Nat → Int32} {L : Nat → Nat → Int64} {C M : Nat → Nat → Int32} {CL ML : Nat → Nat → Int64}
theorem IvS.i3 {s : Nat} (h : IvS dc C M CL ML s) : (¬ C (23 + 2 * s) 3 = -1) ↔ M 60 s = nI 2 := by
  rcases h.ca with ⟨a, b, c, d⟩ | ⟨a, b, b2, c, d, -⟩ | ⟨a, b, c, d, e⟩
  · rw [a, d]; exact ⟨fun z => absurd rfl z, fun z => absurd z (by decide)⟩
  · rw [a, d]; exact ⟨fun z => absurd rfl z, fun z => absurd z (by decide)⟩
  · rw [a, d]; exact ⟨fun _ => rfl, fun _ => inR_m1 e⟩
theorem IvS.i1 {s : Nat} (h : IvS dc C M CL ML s) : (¬ C (23 + 2 * s) 1 = -1) ↔ M 60 s = nI 1 := by
  rcases h.ca with ⟨a, b, c, d⟩ | ⟨a, b, b2, c, d, -⟩ | ⟨a, b, c, d, e⟩
  · rw [a, b]; exact ⟨fun z => absurd rfl z, fun z => absurd z (by decide)⟩
  · rw [a, b]; exact ⟨fun _ => rfl, fun _ => inR_m1 b2⟩
  · rw [a, b]; exact ⟨fun z => absurd rfl z, fun z => absurd z (by decide)⟩
theorem IvS.z60 {s : Nat} (h : IvS dc C M CL ML s) (h1 : ¬ M 60 s = nI 1) (h2 : ¬ M 60 s = nI 2) : M 60 s = 0 := by
  rcases h.h60 with a | a | a
  · exact a
  · exact absurd a h1
  · exact absurd a h2
theorem hst_iff {s : Nat} (h : IvS dc C M CL ML s) (h1 : M 60 s = nI 1) {i n : Int32} (hn : 0 ≤ n) : hst C s i n ↔ (¬ i < 0 ∧ cpS M s i n) := by
  obtain ⟨z1, z2⟩ := h.sz
  obtain ⟨n', hn', rfl⟩ := nI_of (Int32.not_lt.mpr hn)
  unfold hst cpS
  rw [(h.row h1).2.2.1]
  generalize tn (M 62 s) = z at *
  rw [z1, tn_nI hn']
  by_cases hi : i < 0
  · exact ⟨fun q => absurd hi q.1, fun q => absurd hi q.1⟩
  · obtain ⟨i', hi', rfl⟩ := nI_of hi
    rw [tn_nI hi']
    constructor
    · intro ⟨_, _, a, b⟩
      have a1 : n' ≤ z := Nat.not_lt.mp (fun y => a (nI_lt y hn'))
      rw [pk_sub a1] at b
      have b1 : i' ≤ z - n' := Nat.not_lt.mp (fun y => b (nI_lt y hi'))
      exact ⟨hi, by omega⟩
    · intro ⟨_, a⟩
      refine ⟨hi, nI_pos hn', nI_nlt (by omega) (by omega), ?_⟩
      rw [pk_sub (by omega)]
      exact nI_nlt (by omega) (by omega)
theorem op_copy (h : Inv dc I L) (p q i j n : Int32) : OpI G yX8_copy cX8_copy 8 2 0 0 yX9_copy cX9_copy 7 1 [.int p, .int q, .int i, .int j, .int n] dc I L := by
  have hd : mCop I p q i j n = dCop I p q i j n := by
    unfold mCop dCop
    by_cases hp : inR p 8
    · by_cases hq : inR q 8
      · rw [if_pos hp, if_pos hp, if_pos hq, if_pos hq]
        have hP := h.k6 _ (s8 hp)
        have hQ := h.k6 _ (s8 hq)
        by_cases a1 : I 60 (tn p) = nI 2
        · rw [if_pos a1, if_pos (hP.i3.mpr a1)]
        rw [if_neg a1, if_neg (fun z => a1 (hP.i3.mp z))]
        by_cases a2 : I 60 (tn q) = nI 2
        · rw [if_pos a2, if_pos (hQ.i3.mpr a2)]
        rw [if_neg a2, if_neg (fun z => a2 (hQ.i3.mp z))]
        by_cases a3 : I 60 (tn p) = nI 1
        · rw [if_pos a3, if_pos (hP.i1.mpr a3)]
          by_cases a4 : I 60 (tn q) = nI 1
          · rw [if_pos a4, if_pos (hQ.i1.mpr a4), (hP.row a3).1, (hQ.row a4).1]
            by_cases a5 : I 61 (tn p) = I 61 (tn q)
            · rw [if_pos a5, if_pos a5]
              by_cases a6 : 0 ≤ n
              · rw [if_pos a6, if_pos a6]
                have e1 := hst_iff hP a3 (i := i) a6
                have e2 := hst_iff hQ a4 (i := j) a6
                by_cases a7 : i < 0
                · rw [if_pos a7, if_neg (fun z => (e1.mp z).1 a7)]
                rw [if_neg a7]
                by_cases a8 : j < 0
                · rw [if_pos a8, if_neg (fun z => (e2.mp z).1 a8)]
                  split <;> rfl
                rw [if_neg a8]
                by_cases a9 : cpS I (tn p) i n
                · rw [if_pos a9, if_pos (e1.mpr ⟨a7, a9⟩)]
                  by_cases a10 : cpS I (tn q) j n
                  · rw [if_pos a10, if_pos (e2.mpr ⟨a8, a10⟩)]
                  · rw [if_neg a10, if_neg (fun z => a10 (e2.mp z).2)]
                · rw [if_neg a9, if_neg (fun z => a9 (e1.mp z).2)]
              · rw [if_neg a6, if_neg a6]
            · rw [if_neg a5, if_neg a5]
          · rw [if_neg a4, if_neg (fun z => a4 (hQ.i1.mp z)), if_pos (hQ.z60 a4 a2)]
        · rw [if_neg a3, if_neg (fun z => a3 (hP.i1.mp z)), if_pos (hP.z60 a3 a1)]
      · rw [if_pos hp, if_pos hp, if_neg hq, if_neg hq]
    · rw [if_neg hp, if_neg hp]
  have h60 : ∀ s, s < 8 → I 60 s = 0 ∨ I 60 s = nI 1 ∨ I 60 s = nI 2 := fun s hs => (h.k6 s hs).h60
  refine OpI.rf h (c_X8_copy h.wx) (c_X9_copy (Wm_r h.wm) (fun s hs => h60 s hs)) (show mCop I p q i j n = dCop I p q i j n from hd) (fun h0 => ?_)
  have hm := hd.trans h0
  have hp : inR p 8 := Classical.byContradiction fun y => by unfold mCop at hm; rw [if_neg y] at hm; cases hm
  have hq : inR q 8 := Classical.byContradiction fun y => by unfold mCop at hm; rw [if_pos hp, if_neg y] at hm; cases hm
  have hP := h.k6 _ (s8 hp)
  have hQ := h.k6 _ (s8 hq)
  have lp := s8 hp
  have lq := s8 hq
  unfold mCop at hm
  rw [if_pos hp, if_pos hq] at hm
  by_cases a1 : I 60 (tn p) = nI 2
  · rw [if_pos a1] at hm; cases hm
  rw [if_neg a1] at hm
  by_cases a2 : I 60 (tn q) = nI 2
  · rw [if_pos a2] at hm; cases hm
  rw [if_neg a2] at hm
  have a3 : I 60 (tn p) = nI 1 := Classical.byContradiction fun a3 => by rw [if_neg a3, if_pos (hP.z60 a3 a1)] at hm; cases hm
  rw [if_pos a3] at hm
  have a4 : I 60 (tn q) = nI 1 := Classical.byContradiction fun a4 => by rw [if_neg a4, if_pos (hQ.z60 a4 a2)] at hm; cases hm
  rw [if_pos a4] at hm
  have a5 : I 61 (tn p) = I 61 (tn q) := Classical.byContradiction fun a5 => by rw [if_neg a5] at hm; cases hm
  rw [if_pos a5] at hm
  have a6 : 0 ≤ n := Classical.byContradiction fun a6 => by rw [if_neg a6] at hm; cases hm
  rw [if_pos a6] at hm
  by_cases a7 : i < 0
  · rw [if_pos a7] at hm; cases hm
  rw [if_neg a7] at hm
  by_cases a8 : j < 0
  · rw [if_pos a8] at hm; cases hm
  rw [if_neg a8] at hm
  have a9 : cpS I (tn p) i n := Classical.byContradiction fun a9 => by rw [if_neg a9] at hm; cases hm
  rw [if_pos a9] at hm
  have a10 : cpS I (tn q) j n := Classical.byContradiction fun a10 => by rw [if_neg a10] at hm; cases hm
  have zp := hP.sz.2
  have zq := hQ.sz.2
  unfold cpS at a9 a10
  obtain ⟨q1, q2, q3, q4, q5⟩ := hQ.row a4
  obtain ⟨p1, p2, p3, p4, p5⟩ := hP.row a3
  have hCL : ∀ x y, x ≠ 23 + 2 * tn q + 1 → cp2 L (23 + 2 * tn p + 1) (23 + 2 * tn q + 1) (tn i) (tn j) (tn n) x y = L x y := fun x y hx => cp2_o _ _ hx
  refine MP.of (c_X9_copy h.wm h60) (hd.trans h0) rfl (Inv_of (I1 := I) (L1 := cp2 L (23 + 2 * tn p + 1) (23 + 2 * tn q + 1) (tn i) (tn j) (tn n)) ?_ (fun _ _ _ => rfl) (fun x y hx => (gr2_o _ _ _ (by omega)).trans (gr2_o _ _ _ (by omega))))
  have hl63 : ∀ y, gr2 (cp2 L (23 + 2 * tn p + 1) (23 + 2 * tn q + 1) (tn i) (tn j) (tn n)) 64 0 (tn n) (fun k => (cp2 L (23 + 2 * tn p + 1) (23 + 2 * tn q + 1) (tn i) (tn j) (tn n)) 63 (30 * tn p + tn i + k)) 63 y = L 63 y := fun y => (gr2_o _ _ _ (by decide)).trans (hCL _ _ (by omega))
  refine h.shelf lq (fun _ _ _ => rfl) (fun _ _ _ => rfl) hCL (fun y hy => (gr2_b _ _ (by omega)).trans (hl63 y)) ⟨fun y hy => ?_, hQ.sz, Or.inr (Or.inl ⟨a4, q1, q2, q3, q4, fun z y hy => ?_⟩)⟩
  · by_cases c : tn j ≤ y ∧ y < tn j + tn n
    · have e1 : cp2 L (23 + 2 * tn p + 1) (23 + 2 * tn q + 1) (tn i) (tn j) (tn n) (23 + 2 * tn q + 1) y = L (23 + 2 * tn p + 1) (tn i + (y - tn j)) := if_pos ⟨rfl, c.1, c.2⟩
      rw [e1, hP.el _ (by omega)]
      unfold gr2
      rw [if_pos ⟨rfl, by omega, by omega⟩]
      refine Eq.trans ?_ (hCL 63 (30 * tn p + tn i + (30 * tn q + y - (30 * tn q + tn j))) (by omega)).symm
      congr 1
      omega
    · have e1 : cp2 L (23 + 2 * tn p + 1) (23 + 2 * tn q + 1) (tn i) (tn j) (tn n) (23 + 2 * tn q + 1) y = L (23 + 2 * tn q + 1) y := if_neg (fun w => c w.2)
      rw [e1, gr2_b _ _ (by omega), hl63]
      exact hQ.el y hy
  · by_cases c : tn j ≤ y ∧ y < tn j + tn n
    · have e1 : cp2 L (23 + 2 * tn p + 1) (23 + 2 * tn q + 1) (tn i) (tn j) (tn n) (23 + 2 * tn q + 1) y = L (23 + 2 * tn p + 1) (tn i + (y - tn j)) := if_pos ⟨rfl, c.1, c.2⟩
      rw [e1]
      exact p5 (by rw [a5]; exact z) _ (by omega)
    · have e1 : cp2 L (23 + 2 * tn p + 1) (23 + 2 * tn q + 1) (tn i) (tn j) (tn n) (23 + 2 * tn q + 1) y = L (23 + 2 * tn q + 1) y := if_neg (fun w => c w.2)
      rw [e1]
      exact q5 z y hy
theorem flt_c {f g : Nat → Int32} {z : Nat} (h : ∀ j, j < 6 → f j = g j) : flt f z = flt g z := by
  unfold flt
  rw [fzf_cong (p := pW f z) (q := pW g z) 6 0 (fun j _ hj => by unfold pW; rw [h j (by omega)])]
theorem op_law (h : Inv dc I L) (s : Int32) : OpI G yX8_law cX8_law 3 7 0 0 yX9_law cX9_law 3 2 [.int s] dc I L := by
  have hd : mk0 I s = dLaw I L s := by
    unfold dLaw
    rw [← h.mk0 s]
    by_cases hs : inR s 8
    · rw [if_pos hs, if_pos hs]
      by_cases h0 : sk I (tn s) = 0
      · rw [if_pos h0, h0]
      · rw [if_neg h0]
    · rw [if_neg hs, if_neg hs]
  refine OpI.rf h (c_X8_law h.wx) (c_X9_law (Wm_r h.wm)) (show mk0 I s = dLaw I L s from hd) (fun h0 => ?_)
  have hm := hd.trans h0
  obtain ⟨hs, h60⟩ := h.row1 hm
  have hl := s8 hs
  have hS := h.k6 _ hl
  have hz : I (23 + 2 * tn s) 2 = I 62 (tn s) := (hS.row h60).2.2.1
  have hf : ∀ j, j < 6 → mEl L (tn s) j = elI L (tn s) j := fun j hj => by unfold mEl elI; rw [hS.el j (by omega)]
  have hflt := flt_c (z := tn (I 62 (tn s))) hf
  rw [hz]
  have hC : ∀ x j, x ≠ 3 ∧ x ≠ 4 → lwA I (elI L (tn s)) (tn (I 62 (tn s))) x j = I x j := fun x j hx => by
    unfold lwA lwI rfs
    split
    · rw [u2_a _ _ _ _ hx.2, u2_a _ _ _ _ hx.2, u2_a _ _ _ _ hx.2, u2_a _ _ _ _ hx.2]
    · rw [u2_a _ _ _ _ hx.1, u2_a _ _ _ _ hx.2]
  have hW1 : Wm dc (lwA I (elI L (tn s)) (tn (I 62 (tn s)))) := Wm_c h.wm (fun x j _ => hC x j (by omega))
  have e62 : lwA I (elI L (tn s)) (tn (I 62 (tn s))) 62 (tn s) = I 62 (tn s) := hC _ _ (by omega)
  have hm1 : mk0 (lwA I (elI L (tn s)) (tn (I 62 (tn s)))) s = 0 := by
    unfold mk0
    rw [hC 60 (tn s) (by omega)]
    exact hm
  refine MP.of (c_X9_law hW1) hm1 (by rw [e62, hflt]) ?_
  rw [e62]
  generalize hI1 : lwA I (elI L (tn s)) (tn (I 62 (tn s))) = I1 at *
  refine Inv_of (I1 := I1) (L1 := L) ?_ (fun x j hx => ?_) (fun _ _ _ => rfl)
  · have hM : ∀ x j, x ≠ 3 ∧ x ≠ 4 ∧ ¬ (x = 39 ∧ 18 ≤ j ∧ j ≤ 21) ∧ x ≠ 59 → mLwI I1 (mEl L (tn s)) (tn (I 62 (tn s))) x j = I x j := fun x j hx => by
      unfold mLwI rms
      split
      · unfold u2
        rw [if_neg (by omega), if_neg (by omega), if_neg (by omega), if_neg (by omega)]
        exact hC x j (by omega)
      · unfold u2
        rw [if_neg (by omega), if_neg (by omega)]
        exact hC x j (by omega)
    obtain ⟨h1, h2, h3, h4, h5, h6, h7, h8, h9, h10, h11, h12, h13⟩ := h
    refine ⟨K1.c h1 (hC _ _ (by omega)) (hM _ _ (by omega)), ?_, ?_, K4.c h4 (fun x j _ => hC _ _ (by omega)) (fun x j _ => hM _ _ (by omega)), K5.c h5 (fun j => hC _ _ (by omega)) (fun j => hM _ _ (by omega)), K6.c h6 (fun x j _ _ => hC _ _ (by omega)) (fun x j _ _ => rfl) (fun x j _ => hM _ _ (by omega)) (fun j => rfl), K7.c h12.1 h7 (fun x j _ => hC _ _ (by omega)) (fun x j _ _ _ _ => hM _ _ (by omega)), K8.c h8 (fun x d _ _ => hM _ _ (by omega)), K9.c h9 (hC _ _ (by omega)) (fun j => hM _ _ (by omega)), K10.c h10 (fun j => hC _ _ (by omega)) (fun j => hM _ _ (by omega)), K11.c h11 (fun x j _ => hC _ _ (by omega)) (fun x j _ => hM _ _ (by omega)), K12.c h12 (hC _ _ (by omega)) (hM _ _ (by omega)), K13.c h13 (fun x j _ => hC _ _ (by omega)) (fun x j _ => rfl)⟩
    · unfold mLwI rms
      by_cases e : flt (elI L (tn s)) (tn (I 62 (tn s))) = -1
      · rw [hflt, if_pos e, hf 1 (by decide), hf 3 (by decide), hf 5 (by decide)]
        have e1 : I1 = lwI I (elI L (tn s)) (tn (I 62 (tn s))) := by rw [← hI1]; unfold lwA; rw [if_pos e]
        rw [e1]
        unfold lwI
        rw [if_pos e]
        exact ⟨by simp [u2], by simp [u2], by simp [u2], by simp [u2]⟩
      · rw [hflt, if_neg e]
        have e1 : I1 = rfs (lwI I (elI L (tn s)) (tn (I 62 (tn s)))) 6 := by rw [← hI1]; unfold lwA; rw [if_neg e]
        rw [e1]
        unfold rfs lwI
        rw [if_neg e]
        obtain ⟨w1, w2, w3, -⟩ := h2
        exact ⟨by simp [u2]; exact w1, by simp [u2]; exact w2, by simp [u2]; exact w3, by simp [u2]⟩
    · intro k k1 k2
      unfold mLwI rms
      by_cases e : flt (elI L (tn s)) (tn (I 62 (tn s))) = -1
      · rw [hflt, if_pos e]
        have e1 : I1 = lwI I (elI L (tn s)) (tn (I 62 (tn s))) := by rw [← hI1]; unfold lwA; rw [if_pos e]
        rw [e1]
        unfold lwI
        rw [if_pos e]
        simp [u2]
        exact h3 k k1 k2
      · rw [hflt, if_neg e]
        have e1 : I1 = rfs (lwI I (elI L (tn s)) (tn (I 62 (tn s)))) 6 := by rw [← hI1]; unfold lwA; rw [if_neg e]
        rw [e1]
        unfold rfs lwI
        rw [if_neg e]
        have h36 := h3 6 (by decide) (by decide)
        by_cases ek : k = 6
        · subst ek
          simp [u2]
          rw [h36]
        · simp [u2, ek]
          exact h3 k k1 k2
  · unfold mLwI rms
    split
    · unfold u2
      rw [if_neg (by omega), if_neg (by omega), if_neg (by omega), if_neg (by omega)]
    · unfold u2
      rw [if_neg (by omega), if_neg (by omega)]
end WS
