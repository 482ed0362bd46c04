/-! ===== doors: paper, knock, twice ===== -/
section WQ
variable {G : GG} {dc : Nat} {I : Nat → Nat → Int32} {L : Nat → Nat → Int64} {C M C' M' : Nat → Nat → Int32} {CL ML : Nat → Nat → Int64}
theorem op_paper (h : Inv dc I L) (b : Int32) : OpI G yX8_paper cX8_paper 3 2 0 0 yX9_paper cX9_paper 4 1 [.int b] dc I L := by
  have hd : mPap dc I b = dPap dc I b := by
    unfold mPap dPap
    by_cases hb : inR b dc
    · have hD := h.k7 _ (d24 h hb).1
      rw [if_pos hb, if_pos hb, ← h.k1.1]
      have e := hD.ask
      by_cases h3 : I 0 9 = 0
      · rw [if_pos h3, if_pos h3]
        by_cases h4 : tba I (tn b)
        · rw [if_pos h4, if_pos (e.mp h4)]
          by_cases h5 : I (78 + 3 * tn b) 7 = 0
          · have h6 : ¬ I 45 (tn b) = nI 1 := fun z => by
              rcases h4 with a | a | a
              · rw [hD.b6, z] at a; exact absurd a (by decide)
              · rw [hD.b6, z] at a; exact absurd a (by decide)
              · exact a h5
            rw [if_pos h5, if_neg h6]
          · rw [if_neg h5, if_pos (hD.b7.2 (by rw [← hD.b7.1]; exact h5))]
        · rw [if_neg h4, if_neg (fun z => h4 (e.mpr z))]
      · rw [if_neg h3, if_neg h3]
    · rw [if_neg hb, if_neg hb]
  refine OpI.rf h (c_X8_paper h.wx) (c_X9_paper (Wm_r h.wm)) (show mPap dc I b = dPap dc I b from hd) (fun h0 => ?_)
  have hm := hd.trans h0
  have hb : inR b dc := Classical.byContradiction fun y => by unfold mPap at hm; rw [if_neg y] at hm; cases hm
  have ld := (d24 h hb).1
  have hdc := h.k12.1
  have hD := h.k7 _ ld
  have z12 : tn (I 43 (tn b)) ≤ 12 := hD.b5.2.2
  rw [hD.b5.1]
  have en : fzf (pN (fun k => I 44 (12 * tn b + k))) 0 (tn (I 43 (tn b))) = fzf (pT (I (78 + 3 * tn b + 1))) 0 (tn (I 43 (tn b))) := fz_eq (fun j hj => hD.tr j hj)
  have hnt := (fzf_le (pT (I (78 + 3 * tn b + 1))) (tn (I 43 (tn b))) 0).2
  generalize hn : fzf (pT (I (78 + 3 * tn b + 1))) 0 (tn (I 43 (tn b))) = n at *
  generalize hI1 : tpI (sR I (tn b) (nI 1)) (tn b) n (tn (I 43 (tn b))) = I1
  have hC : ∀ x j, ¬ (x = 78 + 3 * tn b ∧ (j = 6 ∨ j = 7 ∨ j = 8 ∨ j = 9)) ∧ x ≠ 78 + 3 * tn b + 2 → I1 x j = I x j := fun x j hx => by
    rw [← hI1]
    unfold tpI u2
    rw [if_neg (by omega), xpm_o (by omega), xsr_o (by omega)]
  have hm1 : mPap dc I1 b = 0 := by
    unfold mPap mba at hm ⊢
    rw [hC 39 _ (by omega), hC 45 _ (by omega), hC 52 _ (by omega)]
    exact hm
  have e43 : I1 43 (tn b) = I 43 (tn b) := hC _ _ (by omega)
  have e44 : (fun k => I1 44 (12 * tn b + k)) = (fun k => I 44 (12 * tn b + k)) := funext fun k => hC _ _ (by omega)
  have hMc := c_X9_paper (G := G) (L := L) (b := b) (Wm_c h.wm (J := I1) (fun x j _ => hC x j (by omega)))
  rw [e43, e44, en] at hMc
  refine MP.of hMc hm1 rfl (Inv_of (I1 := I1) (L1 := L) ?_ (fun x j hx => ?_) (fun _ _ _ => rfl))
  · have hM : ∀ x j, 39 ≤ x ∧ ¬ ((x = 45 ∨ x = 46 ∨ x = 52) ∧ j = tn b) ∧ ¬ ((x = 47 ∨ x = 53) ∧ 12 * tn b ≤ j ∧ j < 12 * tn b + 12) → (fun x j => if x < 78 then mpI I1 (tn b) n (tn (I 43 (tn b))) x j else I x j) x j = I x j := fun x j hx => by
      show (if x < 78 then _ else _) = _
      split
      · unfold mpI gr2 u2
        rw [if_neg (by omega), if_neg (by omega), xrt_o ⟨hx.2.1, hx.2.2⟩]; exact hC x j (by omega)
      · rfl
    refine (h.ret (C' := I1) (M' := fun x j => if x < 78 then mpI I1 (tn b) n (tn (I 43 (tn b))) x j else I x j) ld (n := n) (w := nI 1) (br := bI (n < tn (I 43 (tn b)))) (g := fun j => I 44 (12 * tn b + j)) (by omega) hC ?_ ?_ ?_ ?_ (fun j hj => ?_) hM ?_ ?_ ?_ (fun j hj => ?_) (fun j hj => ?_) (fun j hj => (hD.tr j (by omega)).2) (fun _ => rfl)).c (fun _ _ _ => rfl) (fun x j _ hx => (if_pos hx).symm) (fun _ _ _ => rfl) (fun _ _ _ _ => rfl)
    · rw [← hI1]; unfold tpI; rw [u2_k _ _ _ _ (by decide), xpm_o (by omega), xsr_6]
    · rw [← hI1]; unfold tpI; rw [u2_s]
    · rw [← hI1]; unfold tpI; rw [u2_k _ _ _ _ (by decide), xpm_8]
    · rw [← hI1]; unfold tpI; rw [u2_k _ _ _ _ (by decide), xpm_o (by omega), xsr_9]
    · rw [← hI1]; unfold tpI; rw [u2_a _ _ _ _ (by omega), xpm_a hj, xsr_o (by omega)]; exact (hD.tr j (by omega)).1
    · show mpI I1 (tn b) n (tn (I 43 (tn b))) 45 (tn b) = _
      unfold mpI; rw [gr2_o _ _ _ (by decide), u2_a _ _ _ _ (by decide), xrt_45]
    · show mpI I1 (tn b) n (tn (I 43 (tn b))) 46 (tn b) = _
      unfold mpI; rw [gr2_o _ _ _ (by decide), u2_a _ _ _ _ (by decide), xrt_46]
    · show mpI I1 (tn b) n (tn (I 43 (tn b))) 52 (tn b) = _
      unfold mpI; rw [gr2_o _ _ _ (by decide), u2_s]
    · show mpI I1 (tn b) n (tn (I 43 (tn b))) 47 (12 * tn b + j) = _
      unfold mpI; rw [gr2_i _ _ hj]; exact hC _ _ (by omega)
    · show mpI I1 (tn b) n (tn (I 43 (tn b))) 53 (12 * tn b + j) = _
      unfold mpI; rw [gr2_o _ _ _ (by decide), u2_a _ _ _ _ (by decide), xrt_53 hj]
  · unfold mpI gr2 u2
    rw [if_neg (by omega), if_neg (by omega), xrt_o (by omega)]
/-- marks of a door: struck heads, knocks, what it filled, what filled it -/
theorem Iv.dr {d : Nat} (h : Iv dc C M CL ML) (hd : d < dc) (hC : ∀ x j, ¬ (x = 78 + 3 * d ∧ 9 ≤ j ∧ j ≤ 12) → C' x j = C x j) (hM : ∀ x j, 39 ≤ x ∧ ¬ ((x = 48 ∨ x = 49 ∨ x = 50) ∧ j = d) ∧ ¬ (x = 53 ∧ 12 * d ≤ j ∧ j < 12 * d + 12) → M' x j = M x j) (e9 : ∀ j, gb (C' (78 + 3 * d) 9) j = (decide (j < tn (M 46 d)) && decide (¬ M' 53 (12 * d + j) = 0))) (e10 : C' (78 + 3 * d) 10 = M' 48 d) (e11 : C' (78 + 3 * d) 11 = M' 49 d) (e12 : C' (78 + 3 * d) 12 = M' 50 d) : Iv dc C' M' CL ML := by
  have hD := h.k7 d hd
  have l43 : tn (M 43 d) ≤ 12 := hD.b5.2.2
  have l46 : tn (M 46 d) ≤ 12 := hD.b8.2.2
  refine h.door hd (fun x j hx => hC x j (by omega)) (fun x j hx => hM x j (by omega)) ⟨?_, ?_, ?_, ?_, ?_, ?_, ?_, ?_, ?_, ?_, e10, e11, e12, ?_⟩
  · rw [hC _ _ (by omega), hM 40 d (by omega)]; exact hD.b0
  · rw [hC _ _ (by omega), hM 41 d (by omega)]; exact hD.b1
  · rw [hC _ _ (by omega), hM 42 d (by omega)]; exact hD.b2
  · rw [hC _ _ (by omega), hM 43 d (by omega)]; exact hD.b5
  · intro j hj
    rw [hM 43 d (by omega)] at hj
    rw [hC _ _ (by omega), hM 44 _ (by omega)]; exact hD.tr j hj
  · rw [hC _ _ (by omega), hM 45 d (by omega)]; exact hD.b6
  · rw [hC _ _ (by omega), hM 52 d (by omega), hM 45 d (by omega)]; exact hD.b7
  · rw [hC _ _ (by omega), hM 46 d (by omega)]; exact hD.b8
  · intro j hj
    rw [hM 46 d (by omega)] at hj
    rw [hC _ _ (by omega), hM 47 _ (by omega)]; exact hD.ag j hj
  · intro j
    rw [hM 46 d (by omega)]; exact e9 j
  · rw [hC _ _ (by omega), hM 56 d (by omega), hM 51 d (by omega)]; exact hD.se
/-- a head is struck, both sides -/
theorem Iv.str {d i : Nat} (h : Iv dc C M CL ML) (hd : d < dc) (hi : i < tn (M 46 d)) (hC : ∀ x j, ¬ (x = 78 + 3 * d ∧ j = 9) → C' x j = C x j) (hM : ∀ x j, 39 ≤ x ∧ ¬ (x = 53 ∧ j = 12 * d + i) → M' x j = M x j) (c9 : C' (78 + 3 * d) 9 = C (78 + 3 * d) 9 ||| (nI 1 <<< (nI i &&& 31))) (m53 : M' 53 (12 * d + i) = nI 1) : Iv dc C' M' CL ML := by
  have hD := h.k7 d hd
  have l46 : tn (M 46 d) ≤ 12 := hD.b8.2.2
  refine h.dr hd (fun x j hx => hC x j (by omega)) (fun x j hx => hM x j (by omega)) (fun j => ?_) ?_ ?_ ?_
  · by_cases hj : j < 32
    · rw [c9, or_set (by omega) hj, hD.st j]
      by_cases e : j = i
      · rw [e, m53, decide_eq_true hi, decide_eq_true (rfl : i = i), Bool.or_true]; rfl
      · rw [decide_eq_false e, Bool.or_false, hM 53 (12 * d + j) (by omega)]
    · rw [gb_hi (by omega), decide_eq_false (by omega), Bool.false_and]
  · rw [hC _ _ (by omega), hM 48 d (by omega)]; exact hD.b10
  · rw [hC _ _ (by omega), hM 49 d (by omega)]; exact hD.b11
  · rw [hC _ _ (by omega), hM 50 d (by omega)]; exact hD.b12
theorem op_twice (h : Inv dc I L) (a i b k : Int32) : OpI G yX8_twice cX8_twice 7 2 0 0 yX9_twice cX9_twice 6 1 [.int a, .int i, .int b, .int k] dc I L := by
  have hsb : ∀ {e z : Int32}, inR e dc → (¬ z < 0 ∧ ¬ I 46 (tn e) ≤ z) → (sbit (I (78 + 3 * tn e) 9) z ↔ ¬ I 53 (12 * tn e + tn z) = 0) := fun {e z} he hz => by
    have hD := h.k7 _ (d24 h he).1
    obtain ⟨l, e2⟩ := tn_lt hD.b8.2.1 (by have := hD.b8.2.2; omega) hz
    have q := hD.sb l
    rw [← e2] at q
    exact q
  have hd : mTwi dc I a i b k = dTwi dc I a i b k := by
    unfold mTwi dTwi
    by_cases ha : inR a dc
    · rw [if_pos ha, if_pos ha]
      by_cases hb : inR b dc
      · rw [if_pos hb, if_pos hb]
        have hA := h.k7 _ (d24 h ha).1
        have hB := h.k7 _ (d24 h hb).1
        rw [hA.b8.1, hB.b8.1]
        by_cases hi : ¬ i < 0 ∧ ¬ I 46 (tn a) ≤ i
        · rw [if_pos hi, if_pos hi]
          by_cases hk : ¬ k < 0 ∧ ¬ I 46 (tn b) ≤ k
          · rw [if_pos hk, if_pos hk]
            by_cases hab : a = b
            · rw [if_pos hab, if_pos hab]
            · rw [if_neg hab, if_neg hab]
              by_cases s1 : sbit (I (78 + 3 * tn a) 9) i
              · rw [if_pos s1, if_neg ((hsb ha hi).mp s1)]
              · have t1 : I 53 (12 * tn a + tn i) = 0 := Classical.byContradiction fun y => s1 ((hsb ha hi).mpr y)
                rw [if_neg s1, if_pos t1]
                by_cases s2 : sbit (I (78 + 3 * tn b) 9) k
                · rw [if_pos s2, if_neg ((hsb hb hk).mp s2)]
                · have t2 : I 53 (12 * tn b + tn k) = 0 := Classical.byContradiction fun y => s2 ((hsb hb hk).mpr y)
                  rw [if_neg s2, if_pos t2, hA.b6, hB.b6]
          · rw [if_neg hk, if_neg hk]
        · rw [if_neg hi, if_neg hi]
      · rw [if_neg hb, if_neg hb]
    · rw [if_neg ha, if_neg ha]
  refine OpI.rf h (c_X8_twice h.wx) (c_X9_twice (Wm_r h.wm)) (show mTwi dc I a i b k = dTwi dc I a i b k from hd) (fun h0 => ?_)
  have hm := hd.trans h0
  have ha : inR a dc := Classical.byContradiction fun y => by unfold mTwi at hm; rw [if_neg y] at hm; cases hm
  have hb : inR b dc := Classical.byContradiction fun y => by unfold mTwi at hm; rw [if_pos ha, if_neg y] at hm; cases hm
  have hi : ¬ i < 0 ∧ ¬ I 46 (tn a) ≤ i := Classical.byContradiction fun y => by unfold mTwi at hm; rw [if_pos ha, if_pos hb, if_neg y] at hm; cases hm
  have hk : ¬ k < 0 ∧ ¬ I 46 (tn b) ≤ k := Classical.byContradiction fun y => by unfold mTwi at hm; rw [if_pos ha, if_pos hb, if_pos hi, if_neg y] at hm; cases hm
  have la := (d24 h ha).1
  have lb := (d24 h hb).1
  have hdc := h.k12.1
  obtain ⟨li, ei⟩ := tn_lt (h.k7 _ la).b8.2.1 (by have := (h.k7 _ la).b8.2.2; omega) hi
  obtain ⟨lk, ek⟩ := tn_lt (h.k7 _ lb).b8.2.1 (by have := (h.k7 _ lb).b8.2.2; omega) hk
  generalize hI1 : twI I a i b k = I1
  have hC : ∀ x j, x < 78 → I1 x j = I x j := fun x j hx => by
    rw [← hI1]
    unfold twI
    split
    · exact u2_a _ _ _ _ (by omega)
    · exact u2_a _ _ _ _ (by omega)
  have hm1 : mTwi dc I1 a i b k = 0 := by
    unfold mTwi at hm ⊢
    rw [hC 46 _ (by omega), hC 46 _ (by omega), hC 53 _ (by omega), hC 53 _ (by omega), hC 45 _ (by omega), hC 45 _ (by omega)]
    exact hm
  refine MP.of (c_X9_twice (Wm_c h.wm (J := I1) (fun x j _ => hC x j (by omega)))) hm1 rfl (Inv_of (I1 := I1) (L1 := L) ?_ (fun x j hx => ?_) (fun _ _ _ => rfl))
  · by_cases hab : a ≤ b
    · have e1 : mTwI I1 a i b k = u2 I1 53 (12 * tn b + tn k) (nI 1) := if_pos hab
      have e2 : twI I a i b k = u2 I (78 + 3 * tn b) 9 (I (78 + 3 * tn b) 9 ||| (nI 1 <<< (k &&& 31))) := if_pos hab
      rw [e1]
      refine (h.str (C' := I1) (M' := fun x j => if x < 78 then u2 I1 53 (12 * tn b + tn k) (nI 1) x j else I x j) lb lk (fun x j hx => ?_) (fun x j hx => ?_) ?_ ?_).c (fun _ _ _ => rfl) (fun x j _ hx => (if_pos hx).symm) (fun _ _ _ => rfl) (fun _ _ _ _ => rfl)
      · rw [← hI1, e2]; exact if_neg hx
      · show (if x < 78 then _ else _) = _
        split
        · rw [show u2 I1 53 (12 * tn b + tn k) (nI 1) x j = I1 x j from if_neg hx.2]; exact hC x j (by assumption)
        · rfl
      · rw [← hI1, e2, u2_s, ← ek]
      · exact u2_s _ _ _ _
    · have e1 : mTwI I1 a i b k = u2 I1 53 (12 * tn a + tn i) (nI 1) := if_neg hab
      have e2 : twI I a i b k = u2 I (78 + 3 * tn a) 9 (I (78 + 3 * tn a) 9 ||| (nI 1 <<< (i &&& 31))) := if_neg hab
      rw [e1]
      refine (h.str (C' := I1) (M' := fun x j => if x < 78 then u2 I1 53 (12 * tn a + tn i) (nI 1) x j else I x j) la li (fun x j hx => ?_) (fun x j hx => ?_) ?_ ?_).c (fun _ _ _ => rfl) (fun x j _ hx => (if_pos hx).symm) (fun _ _ _ => rfl) (fun _ _ _ _ => rfl)
      · rw [← hI1, e2]; exact if_neg hx
      · show (if x < 78 then _ else _) = _
        split
        · rw [show u2 I1 53 (12 * tn a + tn i) (nI 1) x j = I1 x j from if_neg hx.2]; exact hC x j (by assumption)
        · rfl
      · rw [← hI1, e2, u2_s, ← ei]
      · exact u2_s _ _ _ _
  · unfold mTwI
    split
    · exact u2_a _ _ _ _ (by omega)
    · exact u2_a _ _ _ _ (by omega)
end WQ
