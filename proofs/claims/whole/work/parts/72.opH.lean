/-! ===== knock, door ===== -/
section WK
variable {G : GG} {dc : Nat} {I : Nat → Nat → Int32} {L : Nat → Nat → Int64} {C M C' M' : Nat → Nat → Int32} {CL ML : Nat → Nat → Int64}
theorem sI_up {f g : Nat → Int32} {q : Nat} {v : Int32} (hg : ∀ j, g j = if j = q then f q + v else f j) : ∀ n, sI g n = if q < n then sI f n + v else sI f n
  | 0 => by rw [if_neg (by omega)]; rfl
  | n + 1 => by
    have ih := sI_up hg n
    rw [sI, sI, ih, hg n]
    by_cases h1 : n = q
    · rw [if_pos h1, if_neg (by omega), if_pos (by omega), h1, Int32.add_assoc]
    · rw [if_neg h1]
      by_cases h2 : q < n
      · rw [if_pos h2, if_pos (by omega), Int32.add_assoc, Int32.add_comm v, ← Int32.add_assoc]
      · rw [if_neg h2, if_neg (by omega)]
theorem xnt_o {q : Nat} {w : Int32} {x j : Nat} (h : x ≠ 5 ∧ x ≠ 6 ∧ x ≠ 7) : ntI I q w x j = I x j := by
  unfold ntI
  split
  · rw [u2_a _ _ _ _ h.1, u2_a _ _ _ _ h.2.1]
  · rw [u2_a _ _ _ _ h.1, u2_a _ _ _ _ h.2.2, u2_a _ _ _ _ h.1, u2_a _ _ _ _ h.2.1]
theorem xnt_6 {q : Nat} {w : Int32} (j : Nat) : ntI I q w 6 j = if j = q then I 6 q + nI 1 else I 6 j := by
  have e : u2 (u2 I 6 q (I 6 q + nI 1)) 5 2 (I 5 2 + nI 1) 6 j = if j = q then I 6 q + nI 1 else I 6 j := by
    rw [u2_a _ _ _ _ (by decide)]
    by_cases h : j = q
    · rw [h, u2_s, if_pos rfl]
    · rw [u2_k _ _ _ _ h, if_neg h]
  unfold ntI
  split
  · exact e
  · rw [u2_a _ _ _ _ (by decide), u2_a _ _ _ _ (by decide)]; exact e
theorem xnt_52 {q : Nat} {w : Int32} : ntI I q w 5 2 = I 5 2 + nI 1 := by
  unfold ntI
  split
  · rw [u2_s]
  · rw [u2_k _ _ _ _ (by decide), u2_a _ _ _ _ (by decide), u2_s]
theorem xnt_7 {q : Nat} {w : Int32} (j : Nat) : ntI I q w 7 j = if j = q then I 7 q + (if w = 0 then nI 0 else nI 1) else I 7 j := by
  unfold ntI
  by_cases hw : w = 0
  · rw [if_pos hw, if_pos hw, u2_a _ _ _ _ (by decide), u2_a _ _ _ _ (by decide)]
    by_cases h : j = q
    · rw [if_pos h, h]; exact (Int32.add_zero _).symm
    · rw [if_neg h]
  · rw [if_neg hw, if_neg hw, u2_a _ _ _ _ (by decide)]
    by_cases h : j = q
    · rw [h, u2_s, if_pos rfl]
    · rw [u2_k _ _ _ _ h, if_neg h, u2_a _ _ _ _ (by decide), u2_a _ _ _ _ (by decide)]
theorem xnt_53 {q : Nat} {w : Int32} : ntI I q w 5 3 = I 5 3 + (if w = 0 then nI 0 else nI 1) := by
  unfold ntI
  by_cases hw : w = 0
  · rw [if_pos hw, if_pos hw, u2_k _ _ _ _ (by decide), u2_a _ _ _ _ (by decide)]; exact (Int32.add_zero _).symm
  · rw [if_neg hw, if_neg hw, u2_s]
/-- one more knock in the chances -/
theorem Iv.chance {q : Nat} {v : Int32} (h : Iv dc C M CL ML) (hq : q < 40) (hC : ∀ x j, x ≠ 5 ∧ x ≠ 6 ∧ x ≠ 7 → C' x j = C x j) (hM : ∀ x j, 39 ≤ x ∧ x ≠ 57 ∧ x ≠ 58 → M' x j = M x j) (c6 : ∀ j, C' 6 j = if j = q then C 6 q + nI 1 else C 6 j) (c7 : ∀ j, C' 7 j = if j = q then C 7 q + v else C 7 j) (c52 : C' 5 2 = C 5 2 + nI 1) (c53 : C' 5 3 = C 5 3 + v) (m57 : ∀ j, M' 57 j = if j = q then M 57 q + nI 1 else M 57 j) (m58 : ∀ j, M' 58 j = if j = q then M 58 q + v else M 58 j) : Iv dc C' M' CL ML := by
  obtain ⟨h1, h2, h3, h4, h5, h6, h7, h8, h9, h10, h11, h12, h13⟩ := h
  have hdc := h12.1
  refine ⟨K1.c h1 (hC _ _ (by omega)) (hM _ _ (by omega)), K2.c h2 (fun j => hC _ _ (by omega)) (fun j _ _ => hM _ _ (by omega)), K3.c h3 (fun j => hC _ _ (by omega)) (fun j => hM _ _ (by omega)), ⟨fun k hk => ?_, ?_, ?_⟩, K5.c h5 (fun j => hC _ _ (by omega)) (fun j => hM _ _ (by omega)), K6.c h6 (fun x j _ _ => hC _ _ (by omega)) (fun x j _ _ => rfl) (fun x j _ => hM _ _ (by omega)) (fun j => rfl), K7.c hdc h7 (fun x j _ => hC _ _ (by omega)) (fun x j _ _ _ _ => hM _ _ (by omega)), K8.c h8 (fun x e _ _ => hM _ _ (by omega)), K9.c h9 (hC _ _ (by omega)) (fun j => hM _ _ (by omega)), K10.c h10 (fun j => hC _ _ (by omega)) (fun j => hM _ _ (by omega)), K11.c h11 (fun x j _ => hC _ _ (by omega)) (fun x j _ => hM _ _ (by omega)), K12.c h12 (hC _ _ (by omega)) (hM _ _ (by omega)), K13.c h13 (fun x j _ => hC _ _ (by omega)) (fun x j _ => rfl)⟩
  · rw [c6, c7, m57, m58, (h4.1 q hq).1, (h4.1 q hq).2, (h4.1 k hk).1, (h4.1 k hk).2]
    exact ⟨rfl, rfl⟩
  · rw [c52, h4.2.1, sI_up m57, if_pos hq]
  · rw [c53, h4.2.2, sI_up m58, if_pos hq]
/-- one knock more at a door -/
theorem Iv.kn {d : Nat} (h : Iv dc C M CL ML) (hd : d < dc) : Iv dc (u2 C (78 + 3 * d) 10 (C (78 + 3 * d) 10 + nI 1)) (u2 M 48 d (M 48 d + nI 1)) CL ML := by
  have hD := h.k7 d hd
  refine h.dr hd (fun x j hx => if_neg (by omega)) (fun x j hx => if_neg (by omega)) (fun j => ?_) ?_ ?_ ?_
  · rw [u2_k _ _ _ _ (by decide), u2_a _ _ _ _ (by decide)]; exact hD.st j
  · rw [u2_s, u2_s, hD.b10]
  · rw [u2_k _ _ _ _ (by decide), u2_a _ _ _ _ (by decide)]; exact hD.b11
  · rw [u2_k _ _ _ _ (by decide), u2_a _ _ _ _ (by decide)]; exact hD.b12
theorem op_knock (h : Inv dc I L) (b u : Int32) : OpI G yX8_knock cX8_knock 5 2 0 0 yX9_knock cX9_knock 4 1 [.int b, .int u] dc I L := by
  have hd : mKno dc I b u = dKno dc I b u := by
    unfold mKno dKno
    by_cases hb : inR b dc
    · have hD := h.k7 _ (d24 h hb).1
      rw [if_pos hb, if_pos hb, ← h.k1.1]
      have e := hD.ask
      by_cases h1 : u < 0
      · rw [if_pos h1, if_neg (fun z => z.1 h1)]
      rw [if_neg h1]
      by_cases h2 : nI 10 ≤ u
      · rw [if_pos h2, if_neg (fun z => z.2 h2)]
      rw [if_neg h2, if_pos ⟨h1, h2⟩]
      by_cases h3 : I 0 9 = 0
      · rw [if_pos h3, if_pos h3]
        by_cases h4 : tba I (tn b)
        · rw [if_pos h4, if_pos (e.mp h4), hD.b10, h.k2.1]
        · rw [if_neg h4, if_neg (fun z => h4 (e.mpr z))]
      · rw [if_neg h3, if_neg h3]
    · rw [if_neg hb, if_neg hb]
  refine OpI.rf h (c_X8_knock h.wx) (c_X9_knock (Wm_r h.wm)) (show mKno dc I b u = dKno dc I b u from hd) (fun h0 => ?_)
  have hm := hd.trans h0
  have hb : inR b dc := Classical.byContradiction fun y => by unfold mKno at hm; rw [if_neg y] at hm; cases hm
  have hu : inR u 10 := Classical.byContradiction fun y => by unfold mKno at hm; rw [if_pos hb, if_neg y] at hm; cases hm
  have ld := (d24 h hb).1
  have hdc := h.k12.1
  have hD := h.k7 _ ld
  have z12 : tn (I 43 (tn b)) ≤ 12 := hD.b5.2.2
  have lu : tn u < 10 := (tn_lt rfl (by decide) hu).1
  have ll : tn (I 41 (tn b)) ≤ 3 := hD.b1.2.2
  rw [hD.b5.1, hD.b1.1, hD.b2]
  have hq : tn (I 41 (tn b)) * 10 + tn u = 10 * tn (I 41 (tn b)) + tn u := by omega
  rw [hq]
  have hq40 : 10 * tn (I 41 (tn b)) + tn u < 40 := by omega
  generalize hI1 : ntI (tkI I (tn b) (tn (I 43 (tn b))) u) (10 * tn (I 41 (tn b)) + tn u) (bI (¬ ((I 42 (tn b) >>> (u &&& 31)) &&& nI 1) = 0)) = I1
  generalize hq9 : 10 * tn (I 41 (tn b)) + tn u = q at *
  have hT : ∀ x j, x < 78 → tkI I (tn b) (tn (I 43 (tn b))) u x j = I x j := fun x j hx => by
    unfold tkI
    split
    · exact u2_a _ _ _ _ (by omega)
    · rw [xpm_o (by omega), xsr_o (by omega)]; exact u2_a _ _ _ _ (by omega)
  have hC : ∀ x j, x < 78 ∧ x ≠ 5 ∧ x ≠ 6 ∧ x ≠ 7 → I1 x j = I x j := fun x j hx => by
    rw [← hI1, xnt_o (by omega)]; exact hT x j hx.1
  have hm1 : mKno dc I1 b u = 0 := by
    unfold mKno mba at hm ⊢
    rw [hC 39 _ (by omega), hC 45 _ (by omega), hC 52 _ (by omega), hC 48 _ (by omega), hC 39 _ (by omega)]
    exact hm
  have e43 : I1 43 (tn b) = I 43 (tn b) := hC _ _ (by omega)
  have e42 : I1 42 (tn b) = I 42 (tn b) := hC _ _ (by omega)
  have e41 : kq I1 (tn b) u = q := by unfold kq; rw [hC 41 _ (by omega)]; exact hq9
  have e44 : (fun k => I1 44 (12 * tn b + k)) = (fun k => I 44 (12 * tn b + k)) := funext fun k => hC _ _ (by omega)
  have hMc := c_X9_knock (G := G) (L := L) (b := b) (u := u) (Wm_c h.wm (J := I1) (fun x j _ => hC x j (by omega)))
  rw [e43, e42] at hMc
  refine MP.of hMc hm1 rfl (Inv_of (I1 := I1) (L1 := L) ?_ (fun x j hx => ?_) (fun _ _ _ => rfl))
  · have hK := h.kn ld
    by_cases hbit : ((I 42 (tn b) >>> (u &&& 31)) &&& nI 1) = 0
    · have hw : bI (¬ ((I 42 (tn b) >>> (u &&& 31)) &&& nI 1) = 0) = 0 := bI_f (fun z => z hbit)
      have e1 : tkI I (tn b) (tn (I 43 (tn b))) u = u2 I (78 + 3 * tn b) 10 (I (78 + 3 * tn b) 10 + nI 1) := by
        unfold tkI; rw [hD.b2]; exact if_pos hbit
      have e2 : mkI' I1 (tn b) (tn (I 43 (tn b))) u = mkJ I1 (tn b) u := by
        unfold mkI'; rw [e42]; exact if_pos hbit
      rw [e1, hw] at hI1
      rw [e2]
      have hJ : ∀ x j, 39 ≤ x ∧ x < 78 ∧ x ≠ 57 → mkJ I1 (tn b) u x j = u2 I 48 (tn b) (I 48 (tn b) + nI 1) x j := fun x j hx => by
        unfold mkJ
        rw [u2_a _ _ _ _ hx.2.2]
        unfold u2
        rw [hC 48 _ (by omega), hC x j (by omega)]
      refine (hK.chance (C' := I1) (M' := fun x j => if x < 78 then mkJ I1 (tn b) u x j else u2 I 48 (tn b) (I 48 (tn b) + nI 1) x j) (v := nI 0) hq40 (fun x j hx => ?_) (fun x j hx => ?_) (fun j => ?_) (fun j => ?_) ?_ ?_ (fun j => ?_) (fun j => ?_)).c (fun _ _ _ => rfl) (fun x j _ hx => (if_pos hx).symm) (fun _ _ _ => rfl) (fun _ _ _ _ => rfl)
      · rw [← hI1, xnt_o hx]
      · show (if x < 78 then _ else _) = _
        split
        · exact hJ x j (by omega)
        · rfl
      · rw [← hI1, xnt_6]
      · rw [← hI1, xnt_7, if_pos rfl]
      · rw [← hI1, xnt_52]
      · rw [← hI1, xnt_53, if_pos rfl]
      · show mkJ I1 (tn b) u 57 j = _
        unfold mkJ
        rw [e41, hC 57 q (by omega), u2_a (x := 57) I _ _ _ (by decide), u2_a (x := 57) I _ _ _ (by decide)]
        by_cases e : j = q
        · rw [e, u2_s, if_pos rfl]
        · rw [u2_k _ _ _ _ e, if_neg e, u2_a _ _ _ _ (by decide), hC 57 j (by omega)]
      · show mkJ I1 (tn b) u 58 j = _
        rw [hJ 58 j (by omega), u2_a (x := 58) I _ _ _ (by decide), u2_a (x := 58) I _ _ _ (by decide)]
        by_cases e : j = q
        · rw [e, if_pos rfl]; exact (Int32.add_zero _).symm
        · rw [if_neg e]
    · have hw : bI (¬ ((I 42 (tn b) >>> (u &&& 31)) &&& nI 1) = 0) = nI 1 := bI_t hbit
      have hw0 : ¬ (nI 1 : Int32) = 0 := by decide
      have e1 : tkI I (tn b) (tn (I 43 (tn b))) u = pm (sR (u2 I (78 + 3 * tn b) 10 (I (78 + 3 * tn b) 10 + nI 1)) (tn b) (nI 2)) (tn b) (I (78 + 3 * tn b + 1)) (tn (I 43 (tn b))) := by
        unfold tkI; rw [hD.b2]; exact if_neg hbit
      have e2 : mkI' I1 (tn b) (tn (I 43 (tn b))) u = gr2 (mkK I1 (tn b) u) 47 (12 * tn b) (tn (I 43 (tn b))) (fun k => I1 44 (12 * tn b + k)) := by
        unfold mkI'; rw [e42]; exact if_neg hbit
      rw [e1, hw] at hI1
      rw [e2, e44]
      generalize hI2 : gr2 (mkK I1 (tn b) u) 47 (12 * tn b) (tn (I 43 (tn b))) (fun k => I 44 (12 * tn b + k)) = I2
      have hJ : ∀ x j, 39 ≤ x ∧ x < 78 ∧ x ≠ 57 ∧ x ≠ 58 ∧ ¬ ((x = 45 ∨ x = 46 ∨ x = 52) ∧ j = tn b) ∧ ¬ ((x = 47 ∨ x = 53) ∧ 12 * tn b ≤ j ∧ j < 12 * tn b + 12) → I2 x j = u2 I 48 (tn b) (I 48 (tn b) + nI 1) x j := fun x j hx => by
        rw [← hI2]
        unfold gr2 mkK
        rw [if_neg (by omega), xrt_o (by omega), u2_a _ _ _ _ (by omega)]
        unfold mkJ
        rw [u2_a _ _ _ _ (by omega)]
        unfold u2
        rw [hC 48 _ (by omega), hC x j (by omega)]
      have hR := hK.ret (C' := pm (sR (u2 I (78 + 3 * tn b) 10 (I (78 + 3 * tn b) 10 + nI 1)) (tn b) (nI 2)) (tn b) (I (78 + 3 * tn b + 1)) (tn (I 43 (tn b)))) (M' := fun x j => if x = 57 ∨ x = 58 then I x j else if x < 78 then I2 x j else u2 I 48 (tn b) (I 48 (tn b) + nI 1) x j) ld (n := tn (I 43 (tn b))) (w := nI 2) (br := nI 0) (g := fun j => I 44 (12 * tn b + j)) z12 (fun x j hx => by rw [xpm_o (by omega), xsr_o (by omega)]) (by rw [xpm_o (by omega), xsr_6]) (by rw [xpm_o (by omega), xsr_7]) xpm_8 (by rw [xpm_o (by omega), xsr_9]) (fun j hj => by rw [xpm_a hj]; exact (hD.tr j hj).1) (fun x j hx => ?_) ?_ ?_ ?_ (fun j hj => ?_) (fun j hj => ?_) (fun j hj => (hD.tr j hj).2) (fun z => absurd rfl z)
      · refine (hR.chance (C' := I1) (M' := fun x j => if x < 78 then I2 x j else u2 I 48 (tn b) (I 48 (tn b) + nI 1) x j) (v := nI 1) hq40 (fun x j hx => ?_) (fun x j hx => ?_) (fun j => ?_) (fun j => ?_) ?_ ?_ (fun j => ?_) (fun j => ?_)).c (fun _ _ _ => rfl) (fun x j _ hx => (if_pos hx).symm) (fun _ _ _ => rfl) (fun _ _ _ _ => rfl)
        · rw [← hI1, xnt_o hx]
        · exact (if_neg (show ¬ (x = 57 ∨ x = 58) by omega)).symm
        · rw [← hI1, xnt_6]
        · rw [← hI1, xnt_7, if_neg hw0]
        · rw [← hI1, xnt_52]
        · rw [← hI1, xnt_53, if_neg hw0]
        · show I2 57 j = if j = q then I 57 q + nI 1 else I 57 j
          rw [← hI2, gr2_o _ _ _ (by decide)]
          unfold mkK
          rw [xrt_o (by omega), u2_a _ _ _ _ (by decide)]
          unfold mkJ
          rw [e41, hC 57 q (by omega)]
          by_cases e : j = q
          · rw [e, u2_s, if_pos rfl]
          · rw [u2_k _ _ _ _ e, if_neg e, u2_a _ _ _ _ (by decide), hC 57 j (by omega)]
        · show I2 58 j = if j = q then I 58 q + nI 1 else I 58 j
          rw [← hI2, gr2_o _ _ _ (by decide)]
          unfold mkK
          rw [xrt_o (by omega), e41, hC 58 q (by omega)]
          by_cases e : j = q
          · rw [e, u2_s, if_pos rfl]
          · rw [u2_k _ _ _ _ e, if_neg e]
            unfold mkJ
            rw [u2_a _ _ _ _ (by decide), u2_a _ _ _ _ (by decide), hC 58 j (by omega)]
      · show (if x = 57 ∨ x = 58 then I x j else if x < 78 then I2 x j else _) = _
        split
        · exact (u2_a _ _ _ _ (by omega)).symm
        · split
          · exact hJ x j (by omega)
          · rfl
      · show I2 45 (tn b) = _
        rw [← hI2, gr2_o _ _ _ (by decide)]
        unfold mkK
        rw [xrt_45]
      · show I2 46 (tn b) = _
        rw [← hI2, gr2_o _ _ _ (by decide)]
        unfold mkK
        rw [xrt_46, e43]; exact hD.b5.2.1
      · show I2 52 (tn b) = _
        rw [← hI2, gr2_o _ _ _ (by decide)]
        unfold mkK
        rw [xrt_52]
      · show I2 47 (12 * tn b + j) = _
        rw [← hI2, gr2_i _ _ hj]
      · show I2 53 (12 * tn b + j) = _
        rw [← hI2, gr2_o _ _ _ (by decide)]
        unfold mkK
        rw [xrt_53 hj]
  · unfold mkI'
    split
    · unfold mkJ
      rw [u2_a _ _ _ _ (by omega), u2_a _ _ _ _ (by omega)]
    · rw [gr2_o _ _ _ (by omega)]
      unfold mkK
      rw [xrt_o (by omega), u2_a _ _ _ _ (by omega)]
      unfold mkJ
      rw [u2_a _ _ _ _ (by omega), u2_a _ _ _ _ (by omega)]
theorem op_door (h : Inv dc I L) (b l u : Int32) : OpI G yX8_door cX8_door 4 2 3 38 yX9_door cX9_door 4 1 [.int b, .int l, .int u] dc I L := by
  have hdc := h.k12.1
  have hd : mDoo I dc b l u = dDoX dc I b l u := by
    unfold mDoo dDoX
    rw [← h.k1.1]
  refine OpI.rf h (c_X8_door h.wx (fun x hx j => h.k13 x hx j)) (c_X9_door (n := dc) (show I 39 17 = nI dc from h.k12.2.2) hdc) (show mDoo I dc b l u = dDoX dc I b l u from hd) (fun h0 => ?_)
  have hm := hd.trans h0
  have hb : inR b 6 := Classical.byContradiction fun y => by unfold mDoo at hm; rw [if_neg y] at hm; cases hm
  have hl : inR l 4 := Classical.byContradiction fun y => by unfold mDoo at hm; rw [if_pos hb, if_neg y] at hm; cases hm
  have hu : inR u 1024 := Classical.byContradiction fun y => by unfold mDoo at hm; rw [if_pos hb, if_pos hl, if_neg y] at hm; cases hm
  have hcl : I 39 22 = 0 := Classical.byContradiction fun y => by unfold mDoo at hm; rw [if_pos hb, if_pos hl, if_pos hu, if_neg y] at hm; cases hm
  have h24 : ¬ dc = 24 := fun y => by unfold mDoo at hm; rw [if_pos hb, if_pos hl, if_pos hu, if_pos hcl, if_pos y] at hm; cases hm
  obtain ⟨lb, eb⟩ := tn_lt rfl (by decide) hb
  obtain ⟨ll, el⟩ := tn_lt rfl (by decide) hl
  generalize hI1 : drI dc I b l u = I1
  have hC : ∀ x j, ¬ (x = 78 + 3 * dc) ∧ ¬ (x = 0 ∧ j = 7) → I1 x j = I x j := fun x j hx => by
    rw [← hI1]
    unfold drI u2
    rw [if_neg (by omega), if_neg (by omega), if_neg (by omega), if_neg (by omega), if_neg (by omega), if_neg (by omega), if_neg (by omega)]
  have hz : ∀ x j, 78 + 3 * dc ≤ x → I x j = 0 := fun x j hx => (h.k13 x hx j).1
  have hcd : ∀ j, ¬ (j = 0 ∨ j = 1 ∨ j = 2 ∨ j = 6 ∨ j = 12 ∨ j = 13) → I1 (78 + 3 * dc) j = 0 := fun j hj => by
    rw [← hI1]
    unfold drI u2
    rw [if_neg (by omega), if_neg (by omega), if_neg (by omega), if_neg (by omega), if_neg (by omega), if_neg (by omega), if_neg (by omega)]
    exact hz _ _ (Nat.le_refl _)
  have c0 : I1 (78 + 3 * dc) 0 = b := by
    rw [← hI1]; unfold drI
    rw [u2_a _ _ _ _ (by omega), u2_k _ _ _ _ (by decide), u2_k _ _ _ _ (by decide), u2_s]
  have c1 : I1 (78 + 3 * dc) 1 = l := by
    rw [← hI1]; unfold drI
    rw [u2_a _ _ _ _ (by omega), u2_k _ _ _ _ (by decide), u2_s]
  have c2 : I1 (78 + 3 * dc) 2 = u := by
    rw [← hI1]; unfold drI
    rw [u2_a _ _ _ _ (by omega), u2_s]
  have c6 : I1 (78 + 3 * dc) 6 = 0 := by
    rw [← hI1]; unfold drI
    rw [u2_a _ _ _ _ (by omega), u2_k _ _ _ _ (by decide), u2_k _ _ _ _ (by decide), u2_k _ _ _ _ (by decide), u2_k _ _ _ _ (by decide), u2_k _ _ _ _ (by decide), u2_s]; rfl
  have c12 : I1 (78 + 3 * dc) 12 = -1 := by
    rw [← hI1]; unfold drI
    rw [u2_a _ _ _ _ (by omega), u2_k _ _ _ _ (by decide), u2_k _ _ _ _ (by decide), u2_k _ _ _ _ (by decide), u2_k _ _ _ _ (by decide), u2_s]
  have c13 : I1 (78 + 3 * dc) 13 = -1 := by
    rw [← hI1]; unfold drI
    rw [u2_a _ _ _ _ (by omega), u2_k _ _ _ _ (by decide), u2_k _ _ _ _ (by decide), u2_k _ _ _ _ (by decide), u2_s]
  have c07 : I1 0 7 = nI (dc + 1) := by
    rw [← hI1]; unfold drI
    rw [u2_s]
  have hm1 : mDoo I1 dc b l u = 0 := by
    unfold mDoo at hm ⊢
    rw [hC 39 _ (by omega)]
    exact hm
  refine MP.of (c_X9_door (n := dc) (show I1 39 17 = nI dc from (hC 39 17 (by omega)).trans h.k12.2.2) hdc) hm1 rfl (Inv_of (I1 := I1) (L1 := L) ?_ (fun x j hx => ?_) (fun _ _ _ => rfl))
  · have hM : ∀ x j, 39 ≤ x ∧ x < 78 ∧ ¬ ((x = 40 ∨ x = 41 ∨ x = 42 ∨ x = 50) ∧ j = dc) ∧ ¬ (x = 39 ∧ j = 17) → mDoI I1 dc b l u x j = I x j := fun x j hx => by
      unfold mDoI u2
      rw [if_neg (by omega), if_neg (by omega), if_neg (by omega), if_neg (by omega), if_neg (by omega)]
      exact hC x j (by omega)
    have m40 : mDoI I1 dc b l u 40 dc = b := by
      unfold mDoI
      rw [u2_a _ _ _ _ (by decide), u2_a _ _ _ _ (by decide), u2_a _ _ _ _ (by decide), u2_a _ _ _ _ (by decide), u2_s]
    have m41 : mDoI I1 dc b l u 41 dc = l := by
      unfold mDoI
      rw [u2_a _ _ _ _ (by decide), u2_a _ _ _ _ (by decide), u2_a _ _ _ _ (by decide), u2_s]
    have m42 : mDoI I1 dc b l u 42 dc = u := by
      unfold mDoI
      rw [u2_a _ _ _ _ (by decide), u2_a _ _ _ _ (by decide), u2_s]
    have m50 : mDoI I1 dc b l u 50 dc = -1 := by
      unfold mDoI
      rw [u2_a _ _ _ _ (by decide), u2_s]
    have m17 : mDoI I1 dc b l u 39 17 = nI (dc + 1) := by
      unfold mDoI
      rw [u2_s]
    generalize mDoI I1 dc b l u = I2 at *
    obtain ⟨h1, h2, h3, h4, h5, h6, h7, h8, h9, h10, h11, h12, h13⟩ := h
    refine ⟨K1.c h1 (hC _ _ (by omega)) (hM _ _ (by omega)), K2.c h2 (fun j => hC _ _ (by omega)) (fun j _ _ => hM _ _ (by omega)), K3.c h3 (fun j => hC _ _ (by omega)) (fun j => hM _ _ (by omega)), K4.c h4 (fun x j _ => hC _ _ (by omega)) (fun x j _ => hM _ _ (by omega)), K5.c h5 (fun j => hC _ _ (by omega)) (fun j => hM _ _ (by omega)), fun s hs => ?_, fun e he => ?_, fun e he1 he2 => ?_, K9.c h9 (hC _ _ (by omega)) (fun j => hM _ _ (by omega)), K10.c h10 (fun j => hC _ _ (by omega)) (fun j => hM _ _ (by omega)), K11.c h11 (fun x j _ => hC _ _ (by omega)) (fun x j _ => hM _ _ (by omega)), ⟨by omega, c07, m17⟩, fun x hx j => ?_⟩
    · have hS : IvS dc I1 I2 L L s := (h6 s hs).c hs (fun j _ _ => hC _ _ (by omega)) (fun j _ => rfl) (fun x hx => hM _ _ (by omega)) (fun j _ => rfl)
      refine ⟨hS.1, hS.2.1, hS.2.2.imp id (Or.imp id ?_)⟩
      intro ⟨a1, a2, a3, a4, a5⟩
      refine ⟨a1, a2, a3, a4, a5.1, fun z => a5.2 (Int32.le_iff_toInt_le.mpr ?_)⟩
      have z2 := Int32.le_iff_toInt_le.mp z
      rw [nI_toInt (by omega)] at z2 ⊢
      omega
    · by_cases q : e = dc
      · rw [q]
        obtain ⟨y1, y2, y3, y4, y5, y6, y7⟩ := h8 dc (Nat.le_refl _) (by omega)
        refine ⟨?_, ?_, ?_, ?_, ?_, ?_, ?_, ?_, ?_, ?_, ?_, ?_, ?_, ?_⟩
        · rw [c0, m40]; exact ⟨rfl, eb, by omega⟩
        · rw [c1, m41]; exact ⟨rfl, el, by omega⟩
        · rw [c2, m42]
        · rw [hcd 5 (by decide), hM 43 _ (by omega), y1]; exact ⟨rfl, rfl, by decide⟩
        · intro j hj
          rw [hM 43 _ (by omega), y1] at hj
          exact absurd hj (by decide +revert)
        · rw [c6, hM 45 _ (by omega), y2]
        · rw [hcd 7 (by decide), hM 52 _ (by omega), y6]; exact ⟨rfl, fun z => absurd rfl z⟩
        · rw [hcd 8 (by decide), hM 46 _ (by omega), y3]; exact ⟨rfl, rfl, by decide⟩
        · intro j hj
          rw [hM 46 _ (by omega), y3] at hj
          exact absurd hj (by decide +revert)
        · intro j
          rw [hcd 9 (by decide), hM 46 _ (by omega), y3]
          have e0 : ¬ j < tn (0 : Int32) := Nat.not_lt_zero j
          rw [decide_eq_false e0, Bool.false_and]; exact gb_0 j
        · rw [hcd 10 (by decide), hM 48 _ (by omega), y4]
        · rw [hcd 11 (by decide), hM 49 _ (by omega), y5]
        · rw [c12, m50]
        · rw [c13, hM 56 _ (by omega), y7]; exact Or.inl ⟨rfl, rfl⟩
      · exact (h7 e (by omega)).c (fun j => hC _ _ (by omega)) (fun j => hC _ _ (by omega)) (fun j => hC _ _ (by omega)) (fun x hx => hM _ _ (by omega)) (fun x j hx hj => hM _ _ (by omega))
    · have y := h8 e (by omega) he2
      rw [hM 43 _ (by omega), hM 45 _ (by omega), hM 46 _ (by omega), hM 48 _ (by omega), hM 49 _ (by omega), hM 52 _ (by omega), hM 56 _ (by omega)]
      exact y
    · rw [hC x j (by omega)]; exact h13 x (by omega) j
  · unfold mDoI
    rw [u2_a _ _ _ _ (by omega), u2_a _ _ _ _ (by omega), u2_a _ _ _ _ (by omega), u2_a _ _ _ _ (by omega), u2_a _ _ _ _ (by omega)]
end WK
