/-! ===== doors: truth, paper, knock, proxy, twice ===== -/
section WD
variable {G : GG} {dc : Nat} {I : Nat → Nat → Int32} {L : Nat → Nat → Int64} {C M C' M' : Nat → Nat → Int32} {CL ML : Nat → Nat → Int64}
/-- a step that touches one door alone -/
theorem Iv.door {d : Nat} (h : Iv dc C M CL ML) (hd : d < dc) (hC : ∀ x j, x ≠ 78 + 3 * d ∧ x ≠ 78 + 3 * d + 1 ∧ x ≠ 78 + 3 * d + 2 → C' x j = C x j) (hM : ∀ x j, 39 ≤ x ∧ ¬ (40 ≤ x ∧ x ≤ 52 ∧ x ≠ 44 ∧ x ≠ 47 ∧ j = d) ∧ ¬ ((x = 44 ∨ x = 47 ∨ x = 53) ∧ 12 * d ≤ j ∧ j < 12 * d + 12) → M' x j = M x j) (hD : IvD C' M' d) : Iv dc C' M' CL ML := by
  obtain ⟨h1, h2, h3, h4, h5, h6, h7, h8, h9, h10, h11, h12, h13⟩ := h
  have hdc := h12.1
  refine ⟨K1.c h1 (hC _ _ (by omega)) (hM _ _ (by omega)), K2.c h2 (fun j => hC _ _ (by omega)) (fun j _ _ => hM _ _ (by omega)), K3.c h3 (fun j => hC _ _ (by omega)) (fun j => hM _ _ (by omega)), K4.c h4 (fun x j _ => hC _ _ (by omega)) (fun x j _ => hM _ _ (by omega)), K5.c h5 (fun j => hC _ _ (by omega)) (fun j => hM _ _ (by omega)), K6.c h6 (fun x j _ _ => hC _ _ (by omega)) (fun x j _ _ => rfl) (fun x j _ => hM _ _ (by omega)) (fun j => rfl), fun e he => ?_, K8.c h8 (fun x e _ _ => hM _ _ (by omega)), K9.c h9 (hC _ _ (by omega)) (fun j => hM _ _ (by omega)), K10.c h10 (fun j => hC _ _ (by omega)) (fun j => hM _ _ (by omega)), K11.c h11 (fun x j _ => hC _ _ (by omega)) (fun x j _ => hM _ _ (by omega)), K12.c h12 (hC _ _ (by omega)) (hM _ _ (by omega)), K13.c h13 (fun x j _ => hC _ _ (by omega)) (fun x j _ => rfl)⟩
  by_cases q : e = d
  · rw [q]; exact hD
  · exact (h7 e he).c (fun j => hC _ _ (by omega)) (fun j => hC _ _ (by omega)) (fun j => hC _ _ (by omega)) (fun x hx => hM _ _ (by omega)) (fun x j hx hj => hM _ _ (by omega))
/-- a new return of a door -/
theorem Iv.ret {d n : Nat} {w br : Int32} {g : Nat → Int32} (h : Iv dc C M CL ML) (hd : d < dc) (hn : n ≤ 12) (hC : ∀ x j, ¬ (x = 78 + 3 * d ∧ (j = 6 ∨ j = 7 ∨ j = 8 ∨ j = 9)) ∧ x ≠ 78 + 3 * d + 2 → C' x j = C x j) (c6 : C' (78 + 3 * d) 6 = w) (c7 : C' (78 + 3 * d) 7 = br) (c8 : C' (78 + 3 * d) 8 = nI n) (c9 : C' (78 + 3 * d) 9 = nI 0) (ca : ∀ j, j < n → C' (78 + 3 * d + 2) j = g j)
    (hM : ∀ x j, 39 ≤ x ∧ ¬ ((x = 45 ∨ x = 46 ∨ x = 52) ∧ j = d) ∧ ¬ ((x = 47 ∨ x = 53) ∧ 12 * d ≤ j ∧ j < 12 * d + 12) → M' x j = M x j) (m45 : M' 45 d = w) (m46 : M' 46 d = nI n) (m52 : M' 52 d = br) (ma : ∀ j, j < n → M' 47 (12 * d + j) = g j) (ms : ∀ j, j < 12 → M' 53 (12 * d + j) = 0) (hg : ∀ j, j < n → g j = -2 ∨ 0 ≤ g j) (hbr : ¬ br = 0 → w = nI 1) : Iv dc C' M' CL ML := by
  have hD := h.k7 d hd
  have l43 : tn (M 43 d) ≤ 12 := hD.b5.2.2
  refine h.door hd (fun x j hx => hC x j (by omega)) (fun x j hx => hM x j (by omega)) ⟨?_, ?_, ?_, ?_, ?_, ?_, ?_, ?_, ?_, ?_, ?_, ?_, ?_, ?_⟩
  · rw [hC _ _ (by omega), hM 40 d (by omega)]; exact hD.b0
  · rw [hC _ _ (by omega), hM 41 d (by omega)]; exact hD.b1
  · rw [hC _ _ (by omega), hM 42 d (by omega)]; exact hD.b2
  · rw [hC _ _ (by omega), hM 43 d (by omega)]; exact hD.b5
  · intro j hj
    rw [hM 43 d (by omega)] at hj
    rw [hC _ _ (by omega), hM 44 _ (by omega)]; exact hD.tr j hj
  · rw [c6, m45]
  · rw [c7, m52, m45]; exact ⟨rfl, hbr⟩
  · rw [c8, m46]; exact ⟨rfl, rg_nI hn (by decide)⟩
  · intro j hj
    rw [m46, tn_nI (by omega)] at hj
    rw [ca j hj, ma j hj]; exact ⟨rfl, hg j hj⟩
  · intro j
    rw [c9, gb_0, m46, tn_nI (by omega)]
    by_cases hj : j < n
    · rw [ms j (by omega)]; simp
    · rw [decide_eq_false hj, Bool.false_and]
  · rw [hC _ _ (by omega), hM 48 d (by omega)]; exact hD.b10
  · rw [hC _ _ (by omega), hM 49 d (by omega)]; exact hD.b11
  · rw [hC _ _ (by omega), hM 50 d (by omega)]; exact hD.b12
  · rw [hC _ _ (by omega), hM 56 d (by omega), hM 51 d (by omega)]; exact hD.se
theorem ag_eq {p : Nat} (hS : IvS dc C M CL ML p) (h60 : M 60 p = nI 1) {j : Nat} (hj : j < 30) : agE CL p j = mAg M ML p j ∧ (mAg M ML p j = -2 ∨ 0 ≤ mAg M ML p j) := by
  have r5 := (hS.row h60).2.2.2.2
  have e : agE CL p j = mAg M ML p j := by
    unfold agE mAg ageOf
    rw [← hS.el j hj]
    generalize hv : CL (23 + 2 * p + 1) j = v
    by_cases c1 : v = -9223372036854775808
    · have c3 : M 61 p = nI 3 := Classical.byContradiction fun z => r5 z j hj (by rw [hv]; exact c1)
      rw [if_pos (Or.inl c1), if_pos ⟨c3, c1⟩]
    · have c0 : ¬ (M 61 p = nI 3 ∧ v = -9223372036854775808) := fun z => c1 z.2
      by_cases c2 : inR v.toInt32 111
      · have c4 : ¬ (v = -9223372036854775808 ∨ v.toInt32 < 0 ∨ ¬ v.toInt32 ≤ nI 110) := fun z => z.elim c1 (fun z => z.elim c2.1 (fun z => z (Int32.not_lt.mp (fun y => c2.2 ((nI_ltle (by decide)).mp y)))))
        rw [if_neg c4, if_neg c0, if_pos c2]
      · have c4 : v = -9223372036854775808 ∨ v.toInt32 < 0 ∨ ¬ v.toInt32 ≤ nI 110 := Or.inr (Classical.byContradiction fun z => c2 ⟨fun y => z (Or.inl y), fun y => z (Or.inr (Int32.not_le.mpr ((nI_ltle (by decide)).mpr y)))⟩)
        rw [if_pos c4, if_neg c0, if_neg c2]
  refine ⟨e, ?_⟩
  unfold mAg
  by_cases c0 : M 61 p = nI 3 ∧ ML 63 (30 * p + j) = -9223372036854775808
  · rw [if_pos c0]; exact Or.inl rfl
  · rw [if_neg c0]
    by_cases c2 : inR (ML 63 (30 * p + j)).toInt32 111
    · rw [if_pos c2]; exact Or.inr (ge0 c2.1)
    · rw [if_neg c2]; exact Or.inl rfl
theorem op_truth (h : Inv dc I L) (b s : Int32) : OpI G yX8_truth cX8_truth 5 4 0 0 yX9_truth cX9_truth 8 2 [.int b, .int s] dc I L := by
  have hrow : mk0 I s = 0 → I (23 + 2 * tn s) 2 = I 62 (tn s) := fun hm => ((h.k6 _ (s8 (h.row1 hm).1)).row (h.row1 hm).2).2.2.1
  have hd : mTru dc I b s = dTru dc I b s := by
    unfold mTru dTru
    by_cases hb : inR b dc
    · rw [if_pos hb, if_pos hb, ← h.k1.1]
      have e := h.mk0 s
      by_cases hs : inR s 8
      · rw [if_pos hs] at e ⊢
        rw [e]
        by_cases h0 : mk0 I s = 0
        · rw [if_pos h0, if_pos h0, hrow h0]
        · rw [if_neg h0, if_neg h0]
      · rw [if_neg hs] at e ⊢
        rw [← e]; rfl
    · rw [if_neg hb, if_neg hb]
  refine OpI.rf h (c_X8_truth h.wx) (c_X9_truth (Wm_r h.wm)) (show mTru dc I b s = dTru dc I b s from hd) (fun h0 => ?_)
  have hm := hd.trans h0
  have hb : inR b dc := Classical.byContradiction fun y => by unfold mTru at hm; rw [if_neg y] at hm; cases hm
  have hm0 : mk0 I s = 0 := Classical.byContradiction fun y => by unfold mTru at hm; rw [if_pos hb, if_neg y] at hm; exact y hm
  obtain ⟨hs, h60⟩ := h.row1 hm0
  have hcl : I 39 22 = 0 := Classical.byContradiction fun y => by unfold mTru at hm; rw [if_pos hb, if_pos hm0, if_neg y] at hm; cases hm
  have h12 : I 62 (tn s) ≤ nI 12 := Classical.byContradiction fun y => by unfold mTru at hm; rw [if_pos hb, if_pos hm0, if_pos hcl, if_neg y] at hm; cases hm
  have hS := h.k6 _ (s8 hs)
  have lp := s8 hs
  obtain ⟨ld, -⟩ := d24 h hb
  have hdc := h.k12.1
  have hD := h.k7 _ ld
  obtain ⟨z1, z2⟩ := hS.sz
  have z12 : tn (I 62 (tn s)) ≤ 12 := (rg_le hS.sz (by decide) (by decide)).mp h12
  rw [hrow hm0]
  generalize hI1 : rf2 (u2 I (78 + 3 * tn b) 5 (nI (tn (I 62 (tn s))))) (78 + 3 * tn b + 1) (tn (I 62 (tn s))) (agE L (tn s)) = I1
  have hC : ∀ x j, ¬ (x = 78 + 3 * tn b ∧ j = 5) ∧ x ≠ 78 + 3 * tn b + 1 → I1 x j = I x j := fun x j hx => by
    rw [← hI1, rf2_o _ _ _ _ hx.2]; exact if_neg hx.1
  have c5 : I1 (78 + 3 * tn b) 5 = I 62 (tn s) := by rw [← hI1, rf2_o _ _ _ _ (by omega), u2_s, ← z1]
  have ct1 : ∀ j, j < tn (I 62 (tn s)) → I1 (78 + 3 * tn b + 1) j = agE L (tn s) j := fun j hj => by rw [← hI1, rf2_i _ _ hj]
  have e62 : I1 62 (tn s) = I 62 (tn s) := hC _ _ (by omega)
  have hm1 : mTru dc I1 b s = 0 := by
    unfold mTru mk0 at hm ⊢
    rw [hC 60 _ (by omega), hC 39 _ (by omega), e62]
    exact hm
  refine MP.of (c_X9_truth (Wm_c h.wm (fun x j _ => hC x j (by omega)))) hm1 (by rw [e62]; exact z1) (Inv_of (I1 := I1) (L1 := L) ?_ (fun x j hx => (gr2_o _ _ _ (by omega)).trans (u2_a _ _ _ _ (by omega))) (fun _ _ _ => rfl))
  have hmag : ∀ j, mAg I1 L (tn s) j = mAg I L (tn s) j := fun j => by unfold mAg; rw [hC 61 _ (by omega)]
  have hM : ∀ x j, 39 ≤ x ∧ ¬ (x = 43 ∧ j = tn b) ∧ ¬ (x = 44 ∧ 12 * tn b ≤ j ∧ j < 12 * tn b + 12) ∧ x < 78 → mTrI I1 L (tn b) (tn s) x j = I x j := fun x j hx => by
    unfold mTrI gr2 u2
    rw [e62, if_neg (by omega), if_neg (by omega)]
    exact hC x j (by omega)
  have m43 : mTrI I1 L (tn b) (tn s) 43 (tn b) = I 62 (tn s) := by
    unfold mTrI
    rw [gr2_o _ _ _ (by decide), u2_s, e62]
  have m44 : ∀ j, j < tn (I 62 (tn s)) → mTrI I1 L (tn b) (tn s) 44 (12 * tn b + j) = mAg I L (tn s) j := fun j hj => by
    unfold mTrI
    rw [e62, gr2_i _ _ hj, hmag]
  refine (Iv.door (C' := I1) (M' := fun x j => if x < 78 then mTrI I1 L (tn b) (tn s) x j else I x j) h ld (fun x j hx => hC x j (by omega)) (fun x j hx => ?_) ⟨?_, ?_, ?_, ?_, ?_, ?_, ?_, ?_, ?_, ?_, ?_, ?_, ?_, ?_⟩).c (fun _ _ _ => rfl) (fun x j _ hx => (if_pos hx).symm) (fun _ _ _ => rfl) (fun _ _ _ _ => rfl)
  · show (if x < 78 then _ else _) = _
    split
    · exact hM x j (by omega)
    · rfl
  · show I1 _ 0 = mTrI I1 L (tn b) (tn s) 40 (tn b) ∧ rg (mTrI I1 L (tn b) (tn s) 40 (tn b)) 5
    rw [hC _ _ (by omega), hM 40 _ (by omega)]; exact hD.b0
  · show I1 _ 1 = mTrI I1 L (tn b) (tn s) 41 (tn b) ∧ rg (mTrI I1 L (tn b) (tn s) 41 (tn b)) 3
    rw [hC _ _ (by omega), hM 41 _ (by omega)]; exact hD.b1
  · show I1 _ 2 = mTrI I1 L (tn b) (tn s) 42 (tn b)
    rw [hC _ _ (by omega), hM 42 _ (by omega)]; exact hD.b2
  · show I1 _ 5 = mTrI I1 L (tn b) (tn s) 43 (tn b) ∧ rg (mTrI I1 L (tn b) (tn s) 43 (tn b)) 12
    rw [c5, m43]; exact ⟨rfl, z1, z12⟩
  · show ∀ j, j < tn (mTrI I1 L (tn b) (tn s) 43 (tn b)) → I1 _ j = mTrI I1 L (tn b) (tn s) 44 (12 * tn b + j) ∧ (mTrI I1 L (tn b) (tn s) 44 (12 * tn b + j) = -2 ∨ 0 ≤ mTrI I1 L (tn b) (tn s) 44 (12 * tn b + j))
    intro j hj
    rw [m43] at hj
    rw [ct1 j hj, m44 j hj]
    exact ag_eq hS h60 (by omega)
  · show I1 _ 6 = mTrI I1 L (tn b) (tn s) 45 (tn b)
    rw [hC _ _ (by omega), hM 45 _ (by omega)]; exact hD.b6
  · show I1 _ 7 = mTrI I1 L (tn b) (tn s) 52 (tn b) ∧ (¬ mTrI I1 L (tn b) (tn s) 52 (tn b) = 0 → mTrI I1 L (tn b) (tn s) 45 (tn b) = nI 1)
    rw [hC _ _ (by omega), hM 52 _ (by omega), hM 45 _ (by omega)]; exact hD.b7
  · show I1 _ 8 = mTrI I1 L (tn b) (tn s) 46 (tn b) ∧ rg (mTrI I1 L (tn b) (tn s) 46 (tn b)) 12
    rw [hC _ _ (by omega), hM 46 _ (by omega)]; exact hD.b8
  · show ∀ j, j < tn (mTrI I1 L (tn b) (tn s) 46 (tn b)) → I1 _ j = mTrI I1 L (tn b) (tn s) 47 (12 * tn b + j) ∧ (mTrI I1 L (tn b) (tn s) 47 (12 * tn b + j) = -2 ∨ 0 ≤ mTrI I1 L (tn b) (tn s) 47 (12 * tn b + j))
    intro j hj
    rw [hM 46 _ (by omega)] at hj
    rw [hC _ _ (by omega), hM 47 _ (by omega)]; exact hD.ag j hj
  · show ∀ j, gb (I1 _ 9) j = (decide (j < tn (mTrI I1 L (tn b) (tn s) 46 (tn b))) && decide (¬ mTrI I1 L (tn b) (tn s) 53 (12 * tn b + j) = 0))
    intro j
    rw [hC _ _ (by omega), hM 46 _ (by omega), hM 53 _ (by omega)]; exact hD.st j
  · show I1 _ 10 = mTrI I1 L (tn b) (tn s) 48 (tn b)
    rw [hC _ _ (by omega), hM 48 _ (by omega)]; exact hD.b10
  · show I1 _ 11 = mTrI I1 L (tn b) (tn s) 49 (tn b)
    rw [hC _ _ (by omega), hM 49 _ (by omega)]; exact hD.b11
  · show I1 _ 12 = mTrI I1 L (tn b) (tn s) 50 (tn b)
    rw [hC _ _ (by omega), hM 50 _ (by omega)]; exact hD.b12
  · show (mTrI I1 L (tn b) (tn s) 56 (tn b) = 0 ∧ I1 _ 13 = -1) ∨ (¬ mTrI I1 L (tn b) (tn s) 56 (tn b) = 0 ∧ I1 _ 13 = mTrI I1 L (tn b) (tn s) 51 (tn b) ∧ inR (mTrI I1 L (tn b) (tn s) 51 (tn b)) 100)
    rw [hC _ _ (by omega), hM 56 _ (by omega), hM 51 _ (by omega)]; exact hD.se
end WD
