/-! ===== calls that write: shelves, near, law ===== -/
section WR
variable {G : GG} {dc : Nat} {I : Nat → Nat → Int32} {L : Nat → Nat → Int64}
theorem Wm_r {k : Nat} (h : Wm dc I) : Wm dc (rfs I k) := Wm_c h (fun x j _ => u2_a _ _ _ _ (by omega))
theorem b6 {b : Int32} (h : inR b 6) : tn b < 6 ∧ b = nI (tn b) := tn_lt rfl (by decide) h
theorem op_near (h : Inv dc I L) (a b : Int32) : OpI G yX8_near cX8_near 3 1 0 0 yX9_near cX9_near 4 1 [.int a, .int b] dc I L := by
  refine OpI.rf h c_X8_near c_X9_near (show mNea a b = dNear a b from rfl) (fun h0 => ?_)
  have ha : inR a 6 := Classical.byContradiction fun z => by unfold dNear at h0; rw [if_neg z] at h0; cases h0
  have hb : inR b 6 := Classical.byContradiction fun z => by unfold dNear at h0; rw [if_pos ha, if_neg z] at h0; cases h0
  have hab : ¬ a = b := fun z => by unfold dNear at h0; rw [if_pos ha, if_pos hb, if_pos z] at h0; cases h0
  obtain ⟨la, ea⟩ := b6 ha
  obtain ⟨lb, eb⟩ := b6 hb
  have hne : tn a ≠ tn b := fun z => hab (by rw [ea, eb, z])
  generalize tn a = p at *
  generalize tn b = q at *
  have hC : ∀ x j, x ≠ 9 → jnI I p q x j = I x j := fun x j hx => (u2_a _ _ _ _ hx).trans (u2_a _ _ _ _ hx)
  have hM : ∀ x j, x ≠ 54 ∧ x ≠ 9 → mNeI (jnI I p q) p q x j = I x j := fun x j hx => (u2_a _ _ _ _ hx.1).trans ((u2_a _ _ _ _ hx.1).trans (hC x j hx.2))
  refine MP.of c_X9_near h0 (v := bI (((I 9 p >>> (nI q &&& 31)) &&& nI 1) = 0)) ?_ (Inv_of (I1 := jnI I p q) (L1 := L) ?_ (fun x j hx => (u2_a _ _ _ _ (by omega)).trans (u2_a _ _ _ _ (by omega))) (fun _ _ _ => rfl))
  · refine bI_iff ?_
    rw [ea, eb, tn_nI (by omega), tn_nI (by omega), show jnI I p q 54 (6 * p + q) = I 54 (6 * p + q) from hC 54 _ (by decide)]
    have e1 := sb_iff (x := I 9 p) (j := q) (by omega)
    rw [h.k5 p la q lb, decide_eq_true_iff] at e1
    exact ⟨fun z => Classical.byContradiction fun y => e1.mp y z, fun z => Classical.byContradiction fun y => e1.mpr y z⟩
  · obtain ⟨h1, h2, h3, h4, h5, h6, h7, h8, h9, h10, h11, h12, h13⟩ := h
    rw [ea, eb, tn_nI (by omega), tn_nI (by omega)]
    refine ⟨K1.c h1 (hC _ _ (by omega)) (hM _ _ (by omega)), K2.c h2 (fun j => hC _ _ (by omega)) (fun j _ _ => hM _ _ (by omega)), K3.c h3 (fun j => hC _ _ (by omega)) (fun j => hM _ _ (by omega)), K4.c h4 (fun x j _ => hC _ _ (by omega)) (fun x j _ => hM _ _ (by omega)), ?_, K6.c h6 (fun x j _ _ => hC _ _ (by omega)) (fun x j _ _ => rfl) (fun x j _ => hM _ _ (by omega)) (fun j => rfl), K7.c h12.1 h7 (fun x j _ => hC _ _ (by omega)) (fun x j _ _ _ _ => hM _ _ (by omega)), K8.c h8 (fun x d _ _ => hM _ _ (by omega)), K9.c h9 (hC _ _ (by omega)) (fun j => hM _ _ (by omega)), K10.c h10 (fun j => hC _ _ (by omega)) (fun j => hM _ _ (by omega)), K11.c h11 (fun x j _ => hC _ _ (by omega)) (fun x j _ => hM _ _ (by omega)), K12.c h12 (hC _ _ (by omega)) (hM _ _ (by omega)), K13.c h13 (fun x j _ => hC _ _ (by omega)) (fun x j _ => rfl)⟩
    intro a' ha' b' hb'
    have e2 : gb (jnI I p q 9 a') b' = (gb (I 9 a') b' || (decide (a' = p ∧ b' = q) || decide (a' = q ∧ b' = p))) := by
      show gb (u2 (u2 I 9 p (I 9 p ||| (nI 1 <<< (nI q &&& 31)))) 9 q ((u2 I 9 p (I 9 p ||| (nI 1 <<< (nI q &&& 31)))) 9 q ||| (nI 1 <<< (nI p &&& 31))) 9 a') b' = _
      by_cases e : a' = q
      · subst e
        rw [u2_s, u2_k _ _ _ _ (Ne.symm hne), or_set (by omega) (by omega)]
        simp [Ne.symm hne]
      · rw [u2_k _ _ _ _ e]
        by_cases e2 : a' = p
        · subst e2
          rw [u2_s, or_set (by omega) (by omega)]
          simp [e]
        · rw [u2_k _ _ _ _ e2]
          simp [e, e2]
    rw [e2, h5 a' ha' b' hb']
    show _ = decide (¬ u2 (u2 (jnI I p q) 54 (6 * p + q) (nI 1)) 54 (6 * q + p) (nI 1) 54 (6 * a' + b') = 0)
    by_cases c1 : a' = q ∧ b' = p
    · obtain ⟨rfl, rfl⟩ := c1
      rw [u2_s]
      simp
      decide
    · rw [u2_k _ _ _ _ (by omega)]
      by_cases c2 : a' = p ∧ b' = q
      · obtain ⟨rfl, rfl⟩ := c2
        rw [u2_s]
        simp
        decide
      · rw [u2_k _ _ _ _ (by omega), show jnI I p q 54 (6 * a' + b') = I 54 (6 * a' + b') from hC 54 _ (by decide), decide_eq_false c1, decide_eq_false c2, Bool.or_false, Bool.or_false]
/-- a step that touches one shelf -/
theorem Iv.shelf {C M C' M' : Nat → Nat → Int32} {CL ML CL' ML' : Nat → Nat → Int64} {p : Nat} (h : Iv dc C M CL ML) (hp : p < 8) (hC : ∀ x j, x ≠ 23 + 2 * p → C' x j = C x j) (hM : ∀ x j, 39 ≤ x ∧ ¬ ((x = 60 ∨ x = 61 ∨ x = 62) ∧ j = p) → M' x j = M x j) (hCL : ∀ x j, x ≠ 23 + 2 * p + 1 → CL' x j = CL x j) (hML : ∀ j, j < 30 * p ∨ 30 * p + 30 ≤ j → ML' 63 j = ML 63 j) (hS : IvS dc C' M' CL' ML' p) : Iv dc C' M' CL' ML' := by
  obtain ⟨h1, h2, h3, h4, h5, h6, h7, h8, h9, h10, h11, h12, h13⟩ := h
  refine ⟨K1.c h1 (hC _ _ (by omega)) (hM _ _ (by omega)), K2.c h2 (fun j => hC _ _ (by omega)) (fun j _ _ => hM _ _ (by omega)), K3.c h3 (fun j => hC _ _ (by omega)) (fun j => hM _ _ (by omega)), K4.c h4 (fun x j _ => hC _ _ (by omega)) (fun x j _ => hM _ _ (by omega)), K5.c h5 (fun j => hC _ _ (by omega)) (fun j => hM _ _ (by omega)), fun s hs => ?_, K7.c h12.1 h7 (fun x j _ => hC _ _ (by omega)) (fun x j _ _ _ _ => hM _ _ (by omega)), K8.c h8 (fun x d _ _ => hM _ _ (by omega)), K9.c h9 (hC _ _ (by omega)) (fun j => hM _ _ (by omega)), K10.c h10 (fun j => hC _ _ (by omega)) (fun j => hM _ _ (by omega)), K11.c h11 (fun x j _ => hC _ _ (by omega)) (fun x j _ => hM _ _ (by omega)), K12.c h12 (hC _ _ (by omega)) (hM _ _ (by omega)), K13.c h13 (fun x j _ => hC _ _ (by omega)) (fun x j _ => hCL _ _ (by omega))⟩
  by_cases e : s = p
  · rw [e]; exact hS
  · exact (h6 s hs).c hs (fun j _ _ => hC _ _ (by omega)) (fun j _ => hCL _ _ (by omega)) (fun x hx => hM _ _ (by omega)) (fun j _ => hML _ (by omega))
theorem op_row (h : Inv dc I L) (s t z : Int32) : OpI G yX8_row cX8_row 4 2 0 0 yX9_row cX9_row 5 1 [.int s, .int t, .int z] dc I L := by
  have hd : mRow s t z = dRow s t z := by
    unfold mRow dRow
    by_cases hs : inR s 8
    · rw [if_pos hs, if_pos hs]
      by_cases hz : 0 ≤ z
      · rw [if_pos hz, if_pos hz]
        by_cases h1 : t < 0
        · rw [if_pos h1, if_neg (fun q => q.1 h1)]
        · rw [if_neg h1]
          by_cases h2 : t < nI 4
          · rw [if_pos h2, if_pos ⟨h1, fun q => absurd h2 (Int32.not_lt.mpr q)⟩]
          · rw [if_neg h2, if_neg (fun q => q.2 (Int32.not_lt.mp h2))]
      · rw [if_neg hz, if_neg hz]
    · rw [if_neg hs, if_neg hs]
  refine OpI.rf h c_X8_row c_X9_row hd (fun h0 => ?_)
  have hm0 := hd.trans h0
  have hs : inR s 8 := Classical.byContradiction fun y => by unfold mRow at hm0; rw [if_neg y] at hm0; cases hm0
  have hz0 : 0 ≤ z := Classical.byContradiction fun y => by unfold mRow at hm0; rw [if_pos hs, if_neg y] at hm0; cases hm0
  have ht : inR t 4 := Classical.byContradiction fun y => by unfold mRow at hm0; rw [if_pos hs, if_pos hz0, if_neg y] at hm0; cases hm0
  have hz1 : z ≤ nI 30 := Classical.byContradiction fun y => by unfold mRow at hm0; rw [if_pos hs, if_pos hz0, if_pos ht, if_neg y] at hm0; cases hm0
  have hl := s8 hs
  obtain ⟨n, hn, rfl⟩ : ∃ n, n < 31 ∧ z = nI n := inR_of (by decide) ⟨Int32.not_lt.mpr hz0, fun y => by
    have a1 := Int32.le_iff_toInt_le.mp y
    have a2 := Int32.le_iff_toInt_le.mp hz1
    rw [nI_toInt (by decide)] at a1 a2
    omega⟩
  generalize hI1 : u2 (u2 (u2 (u2 (u2 I (23 + 2 * (tn s)) 1 (-1)) (23 + 2 * (tn s)) 2 (nI 0)) (23 + 2 * (tn s)) 3 (-1)) (23 + 2 * (tn s)) 1 t) (23 + 2 * (tn s)) 2 (nI n) = I1
  have hC : ∀ x j, x ≠ 23 + 2 * (tn s) → I1 x j = I x j := fun x j hx => by rw [← hI1, u2_a _ _ _ _ hx, u2_a _ _ _ _ hx, u2_a _ _ _ _ hx, u2_a _ _ _ _ hx, u2_a _ _ _ _ hx]
  have c1 : I1 (23 + 2 * (tn s)) 1 = t := by rw [← hI1, u2_k _ _ _ _ (by decide), u2_s]
  have c2 : I1 (23 + 2 * (tn s)) 2 = nI n := by rw [← hI1, u2_s]
  have c3 : I1 (23 + 2 * (tn s)) 3 = -1 := by rw [← hI1, u2_k _ _ _ _ (by decide), u2_k _ _ _ _ (by decide), u2_s]
  have hM : ∀ x j, 39 ≤ x ∧ ¬ ((x = 60 ∨ x = 61 ∨ x = 62) ∧ j = (tn s)) → u2 (u2 (u2 I1 60 (tn s) (nI 1)) 61 (tn s) t) 62 (tn s) (nI n) x j = I x j := fun x j hx => by
    unfold u2
    rw [if_neg (by omega), if_neg (by omega), if_neg (by omega)]
    exact hC x j (by omega)
  refine MP.of c_X9_row hm0 rfl (Inv_of (I1 := I1) (L1 := fl2 L (23 + 2 * (tn s) + 1) 30 (lN 0)) ?_ ?_ ?_)
  · refine h.shelf hl hC hM (fun x j hx => fl2_o _ _ _ _ hx) (fun j hj => (if_neg (by omega)).trans (fl2_o _ _ _ _ (by omega))) ⟨fun j hj => ?_, ?_, Or.inr (Or.inl ⟨?_, ?_, ?_, ?_, c3, fun _ j hj => ?_⟩)⟩
    · rw [show fl2 L (23 + 2 * (tn s) + 1) 30 (lN 0) (23 + 2 * (tn s) + 1) j = lN 0 from if_pos ⟨rfl, hj⟩]
      exact (gr2_i _ (fun _ => lN 0) hj).symm
    · rw [u2_s]; exact rg_nI (by omega) (by decide)
    · rw [u2_a _ _ _ _ (by decide), u2_a _ _ _ _ (by decide), u2_s]
    · rw [c1, u2_a _ _ _ _ (by decide), u2_s]
    · rw [u2_a _ _ _ _ (by decide), u2_s]; exact ht
    · rw [c2, u2_s]
    · rw [show fl2 L (23 + 2 * (tn s) + 1) 30 (lN 0) (23 + 2 * (tn s) + 1) j = lN 0 from if_pos ⟨rfl, hj⟩]; decide
  · intro x j hx
    rw [u2_a _ _ _ _ (by omega), u2_a _ _ _ _ (by omega), u2_a _ _ _ _ (by omega)]
  · intro x j hx
    exact gr2_o _ _ _ (by omega)
theorem i32min (y : Int32) : ¬ y.toInt64 = -9223372036854775808 := fun e => by
  have h := congrArg Int64.toInt e
  rw [Int32.toInt_toInt64] at h
  have h2 : y.toInt ≥ -2147483648 := Int32.le_toInt y
  rw [h] at h2
  exact absurd h2 (by decide)
theorem lowB_min {t : Int32} {v : Int64} (ht : inR t 4) (h3 : ¬ t = nI 3) : ¬ lowB t v = -9223372036854775808 := by
  obtain ⟨k, hk, rfl⟩ := inR_of (N := 4) (by decide) ht
  unfold lowB
  have : k = 0 ∨ k = 1 ∨ k = 2 ∨ k = 3 := by omega
  rcases this with rfl | rfl | rfl | rfl
  · rw [if_pos rfl]; exact i32min _
  · rw [if_neg (by decide), if_pos rfl]; exact i32min _
  · rw [if_neg (by decide), if_neg (by decide), if_pos rfl]; exact i32min _
  · exact absurd rfl h3
theorem op_set (h : Inv dc I L) (s i : Int32) (v : Int64) : OpI G yX8_set cX8_set 6 2 0 0 yX9_set cX9_set 6 2 [.int s, .int i, .long v] dc I L := by
  have hd : mSet I s i = dSet I s i := by
    unfold mSet dSet
    rw [← h.mk0 s]
    by_cases hs : inR s 8
    · rw [if_pos hs, if_pos hs]
      by_cases h0 : sk I (tn s) = 0
      · rw [if_pos h0, if_pos h0]
        have hm : mk0 I s = 0 := by rw [← h.mk0 s, if_pos hs]; exact h0
        rw [((h.k6 _ (s8 hs)).row (h.row1 hm).2).2.2.1]
      · rw [if_neg h0, if_neg h0]
    · rw [if_neg hs, if_neg hs, if_neg (by decide)]
  refine OpI.rf h (c_X8_set h.wx) (c_X9_set (Wm_r h.wm)) (show mSet I s i = dSet I s i from hd) (fun h0 => ?_)
  have hm := hd.trans h0
  have hm0 : mk0 I s = 0 := Classical.byContradiction fun y => by unfold mSet at hm; rw [if_neg y] at hm; exact y hm
  obtain ⟨hs, h60⟩ := h.row1 hm0
  have hi : ¬ i < 0 ∧ ¬ I 62 (tn s) ≤ i := Classical.byContradiction fun y => by unfold mSet at hm; rw [if_pos hm0, if_neg y] at hm; cases hm
  have hl := s8 hs
  have h1 := h.k6 _ hl
  obtain ⟨r1, r2, r3, r4, r5⟩ := h1.row h60
  have hi30 : tn i < 30 := by have := tn_lt h1.sz.1 (by have := h1.sz.2; omega) hi; have := h1.sz.2; omega
  refine MP.of (c_X9_set h.wm) hm rfl (Inv_of (I1 := I) (L1 := u2 L (23 + 2 * (tn s) + 1) (tn i) (lowB (I (23 + 2 * (tn s)) 1) v)) ?_ (fun _ _ _ => rfl) ?_)
  · refine h.shelf hl (fun _ _ _ => rfl) (fun _ _ _ => rfl) (fun x j hx => u2_a _ _ _ _ hx) (fun j hj => (u2_k _ _ _ _ (by omega)).trans (u2_a _ _ _ _ (by omega))) ⟨fun j hj => ?_, h1.sz, Or.inr (Or.inl ⟨h60, r1, r2, r3, r4, fun z j hj => ?_⟩)⟩
    · by_cases e : j = (tn i)
      · rw [e, u2_s, u2_s, r1]
      · rw [u2_k _ _ _ _ e, u2_k _ _ _ _ (by omega), u2_a _ _ _ _ (by omega)]; exact h1.el j hj
    · by_cases e : j = (tn i)
      · rw [e, u2_s, r1]; exact lowB_min r2 z
      · rw [u2_k _ _ _ _ e]; exact r5 z j hj
  · intro x j hx
    exact u2_a _ _ _ _ (by omega)
theorem op_show (h : Inv dc I L) (s b : Int32) : OpI G yX8_show cX8_show 3 2 0 0 yX9_show cX9_show 3 1 [.int s, .int b] dc I L := by
  refine OpI.rf h (c_X8_show h.wx) (c_X9_show (Wm_r h.wm)) (show mSho dc s b = dShow dc s b from rfl) (fun h0 => ?_)
  have hs : inR s 8 := Classical.byContradiction fun y => by unfold dShow at h0; rw [if_neg y] at h0; cases h0
  have hb : b = -1 ∨ inR b dc := Classical.byContradiction fun y => by unfold dShow at h0; rw [if_pos hs, if_neg (fun w => y (Or.inl w)), if_neg (fun w => y (Or.inr w))] at h0; cases h0
  have hl := s8 hs
  have h1 := h.k6 _ hl
  have hC : ∀ x j, x ≠ 23 + 2 * (tn s) → shwI I (tn s) b x j = I x j := fun x j hx => by
    unfold shwI
    split
    · rw [u2_a _ _ _ _ hx, u2_a _ _ _ _ hx, u2_a _ _ _ _ hx]
    · rw [u2_a _ _ _ _ hx, u2_a _ _ _ _ hx, u2_a _ _ _ _ hx, u2_a _ _ _ _ hx]
  have c1 : shwI I (tn s) b (23 + 2 * (tn s)) 1 = -1 := by
    unfold shwI
    split
    · rw [u2_k _ _ _ _ (by decide), u2_k _ _ _ _ (by decide), u2_s]
    · rw [u2_k _ _ _ _ (by decide), u2_k _ _ _ _ (by decide), u2_k _ _ _ _ (by decide), u2_s]
  have c2 : shwI I (tn s) b (23 + 2 * (tn s)) 2 = nI 0 := by
    unfold shwI
    split
    · rw [u2_k _ _ _ _ (by decide), u2_s]
    · rw [u2_k _ _ _ _ (by decide), u2_k _ _ _ _ (by decide), u2_s]
  have c3 : shwI I (tn s) b (23 + 2 * (tn s)) 3 = b := by
    unfold shwI
    split
    · rename_i e; rw [u2_s, e]
    · rw [u2_s]
  have hW1 : Wm dc (shwI I (tn s) b) := Wm_c h.wm (fun x j _ => hC x j (by omega))
  refine MP.of (c_X9_show hW1) h0 rfl (Inv_of (I1 := shwI I (tn s) b) (L1 := L) ?_ (fun x j hx => (u2_a _ _ _ _ (by omega)).trans (u2_a _ _ _ _ (by omega))) (fun _ _ _ => rfl))
  have e60 : mShI (shwI I (tn s) b) (tn s) b 60 (tn s) = if b = -1 then nI 0 else nI 2 := (u2_a _ _ _ _ (by decide)).trans (u2_s _ _ _ _)
  have e61 : mShI (shwI I (tn s) b) (tn s) b 61 (tn s) = b := u2_s _ _ _ _
  have e62 : mShI (shwI I (tn s) b) (tn s) b 62 (tn s) = I 62 (tn s) := (u2_a _ _ _ _ (by decide)).trans ((u2_a _ _ _ _ (by decide)).trans (hC _ _ (by omega)))
  refine h.shelf hl hC (fun x j hx => ?_) (fun _ _ _ => rfl) (fun _ _ => rfl) ⟨h1.el, by rw [e62]; exact h1.sz, ?_⟩
  · unfold mShI u2
    rw [if_neg (by omega), if_neg (by omega)]
    exact hC x j (by omega)
  · rw [e60, e61, c1, c2, c3]
    by_cases e : b = -1
    · rw [if_pos e]; exact Or.inl ⟨rfl, rfl, rfl, e⟩
    · rw [if_neg e]; exact Or.inr (Or.inr ⟨rfl, rfl, rfl, rfl, hb.resolve_left e⟩)
end WR
