/-! ===== calls, both sides ===== -/
abbrev MP (v : Value) : Option Value → Mem → Prop := fun r μ => r = some v ∧ ∃ (dc : Nat) (I : Nat → Nat → Int32) (L : Nat → Nat → Int64), μ = Mm dc I L ∧ Inv dc I L
/-- a call of the component and the same of the model: one answer, and the tie holds behind both -/
def OpT (G : GG) (T : Int32 → Value) (rt : FieldType) (yx : MethodName) (cx : ByteArray) (nx dx bx sx : Nat) (ym : MethodName) (cm : ByteArray) (nm dm : Nat) (av : List Value) (dc : Nat) (I : Nat → Nat → Int32) (L : Nat → Nat → Int64) : Prop :=
  ∃ PX, Cn G yx cx nx (some rt) dx bx sx (.ref 0 :: av) (Mm dc I L) PX ∧ ∀ r μ1, PX r μ1 → ∃ (x : Int32) (dc1 : Nat) (I1 : Nat → Nat → Int32) (L1 : Nat → Nat → Int64), r = some (T x) ∧ μ1 = Mm dc1 I1 L1 ∧ Cn G ym cm nm (some rt) dm 0 0 (.ref 39 :: av) (Mm dc1 I1 L1) (MP (T x))
abbrev OpI (G : GG) := OpT G Value.int FieldType.int
def OpL (G : GG) (yx : MethodName) (cx : ByteArray) (nx dx : Nat) (ym : MethodName) (cm : ByteArray) (nm dm : Nat) (av : List Value) (dc : Nat) (I : Nat → Nat → Int32) (L : Nat → Nat → Int64) : Prop :=
  ∃ x : Int64, Cn G yx cx nx (some .long) dx 0 0 (.ref 0 :: av) (Mm dc I L) (Is (some (.long x)) (Mm dc I L)) ∧ Cn G ym cm nm (some .long) dm 0 0 (.ref 39 :: av) (Mm dc I L) (MP (.long x))
section OPS
variable {G : GG} {yx : MethodName} {cx : ByteArray} {nx dx : Nat} {ym : MethodName} {cm : ByteArray} {nm dm : Nat} {av : List Value} {dc : Nat} {I : Nat → Nat → Int32} {L : Nat → Nat → Int64}
theorem OpI.rd {x y : Int32} (h1 : Cn G yx cx nx (some .int) dx 0 0 (.ref 0 :: av) (Mm dc I L) (Is (some (.int x)) (Mm dc I L))) (h2 : Cn G ym cm nm (some .int) dm 0 0 (.ref 39 :: av) (Mm dc I L) (Is (some (.int y)) (Mm dc I L))) (e : x = y) (h : Inv dc I L) : OpI G yx cx nx dx 0 0 ym cm nm dm av dc I L :=
  ⟨_, h1, fun r μ1 hp => by
    obtain ⟨rfl, rfl⟩ := hp
    exact ⟨x, dc, I, L, rfl, rfl, h2.mono (fun r μ q => by obtain ⟨rfl, rfl⟩ := q; exact ⟨by rw [e], dc, I, L, rfl, h⟩)⟩⟩
theorem OpL.rd {x y : Int64} (h1 : Cn G yx cx nx (some .long) dx 0 0 (.ref 0 :: av) (Mm dc I L) (Is (some (.long x)) (Mm dc I L))) (h2 : Cn G ym cm nm (some .long) dm 0 0 (.ref 39 :: av) (Mm dc I L) (Is (some (.long y)) (Mm dc I L))) (e : x = y) (h : Inv dc I L) : OpL G yx cx nx dx ym cm nm dm av dc I L :=
  ⟨x, h1, h2.mono (fun r μ q => by obtain ⟨rfl, rfl⟩ := q; exact ⟨by rw [e], dc, I, L, rfl, h⟩)⟩
theorem Inv_ref {k : Nat} (h : Inv dc I L) : Inv dc (rms (rfs I k) k) L := by
  refine Inv_of (I1 := rfs I k) (L1 := L) ?_ (fun x j hx => u2_a _ _ _ _ (by omega)) (fun x j _ => rfl)
  have hC : ∀ x j, x ≠ 3 → rfs I k x j = I x j := fun x j hx => u2_a _ _ _ _ hx
  have hM : ∀ x j, x ≠ 59 → x ≠ 3 → rms (rfs I k) k x j = I x j := fun x j hx h3 => (u2_a _ _ _ _ hx).trans (hC x j h3)
  obtain ⟨h1, h2, h3, h4, h5, h6, h7, h8, h9, h10, h11, h12, h13⟩ := h
  refine ⟨K1.c h1 (hC _ _ (by omega)) (hM _ _ (by omega) (by omega)), K2.c h2 (fun j => hC _ _ (by omega)) (fun j _ _ => hM _ _ (by omega) (by omega)), ?_, K4.c h4 (fun x j _ => hC _ _ (by omega)) (fun x j _ => hM _ _ (by omega) (by omega)), K5.c h5 (fun j => hC _ _ (by omega)) (fun j => hM _ _ (by omega) (by omega)), K6.c h6 (fun x j _ _ => hC _ _ (by omega)) (fun x j _ _ => rfl) (fun x j _ => hM _ _ (by omega) (by omega)) (fun j => rfl), K7.c h12.1 h7 (fun x j _ => hC _ _ (by omega)) (fun x j _ _ _ _ => hM _ _ (by omega) (by omega)), K8.c h8 (fun x d _ _ => hM _ _ (by omega) (by omega)), K9.c h9 (hC _ _ (by omega)) (fun j => hM _ _ (by omega) (by omega)), K10.c h10 (fun j => hC _ _ (by omega)) (fun j => hM _ _ (by omega) (by omega)), K11.c h11 (fun x j _ => hC _ _ (by omega)) (fun x j _ => hM _ _ (by omega) (by omega)), K12.c h12 (hC _ _ (by omega)) (hM _ _ (by omega) (by omega)), K13.c h13 (fun x j _ => hC _ _ (by omega)) (fun x j _ => rfl)⟩
  intro q q1 q2
  by_cases e : q = k
  · subst e
    unfold rms rfs
    rw [u2_s, u2_s, u2_a _ _ _ _ (by decide), h3 q q1 q2]
  · unfold rms rfs
    rw [u2_k _ _ _ _ e, u2_k _ _ _ _ e, u2_k _ _ _ _ e]
    exact h3 q q1 q2
/-- a call that may be refused -/
theorem OpI.rf {bx sx dc1 d m : Nat} {v v' : Int32} {J : Nat → Nat → Int32} {K : Nat → Nat → Int64} {μ' : Mem} (h : Inv dc I L) (hX : Cn G yx cx nx (some .int) dx bx sx (.ref 0 :: av) (Mm dc I L) (Is (some (.int (oR d v))) (oM d dc I L (Mm dc1 J K)))) (hM0 : Cn G ym cm nm (some .int) dm 0 0 (.ref 39 :: av) (Mm dc (rfs I d) L) (Is (some (.int (oR m v'))) (pM m dc (rfs I d) L μ'))) (hm : m = d) (hM1 : d = 0 → Cn G ym cm nm (some .int) dm 0 0 (.ref 39 :: av) (Mm dc1 J K) (MP (.int v))) : OpI G yx cx nx dx bx sx ym cm nm dm av dc I L := by
  refine ⟨_, hX, fun r μ1 hp => ?_⟩
  obtain ⟨rfl, rfl⟩ := hp
  by_cases hd : d = 0
  · subst hd
    exact ⟨v, dc1, J, K, rfl, rfl, hM1 rfl⟩
  · refine ⟨-(nI d), dc, rfs I d, L, by rw [oRk hd], by rw [oMk hd], hM0.mono (fun r μ q => ?_)⟩
    obtain ⟨rfl, rfl⟩ := q
    subst hm
    refine ⟨by rw [oRk hd], dc, rms (rfs I m) m, L, ?_, Inv_ref h⟩
    unfold pM
    rw [if_neg hd]
/-- the model's part where nothing is refused -/
theorem MP.of {dc1 dc2 m : Nat} {v v' : Int32} {I1 I2 : Nat → Nat → Int32} {L1 L2 : Nat → Nat → Int64} (hM : Cn G ym cm nm (some .int) dm 0 0 (.ref 39 :: av) (Mm dc1 I1 L1) (Is (some (.int (oR m v'))) (pM m dc1 I1 L1 (Mm dc2 I2 L2)))) (hm : m = 0) (hv : v' = v) (h : Inv dc2 I2 L2) : Cn G ym cm nm (some .int) dm 0 0 (.ref 39 :: av) (Mm dc1 I1 L1) (MP (.int v)) :=
  hM.mono (fun r μ q => by
    obtain ⟨rfl, rfl⟩ := q
    subst hm
    exact ⟨by rw [oR0, hv], dc2, I2, L2, rfl, h⟩)
end OPS
/-! shelves and doors, as both see them -/
section SEE
variable {dc : Nat} {C M : Nat → Nat → Int32} {CL ML : Nat → Nat → Int64}
theorem ge0 {x : Int32} (h : ¬ x < 0) : 0 ≤ x := nI_lt0 h
theorem no0 {i : Int32} : ¬ (¬ i < 0 ∧ ¬ nI 0 ≤ i) := fun z => z.2 (ge0 z.1)
theorem inR_m1 {N : Nat} {x : Int32} (h : inR x N) : ¬ x = -1 := fun e => by rw [e] at h; exact h.1 (by decide)
theorem IvS.sk {s : Nat} (h : IvS dc C M CL ML s) : sk C s = (if M 60 s = nI 2 then 2 else if M 60 s = 0 then 3 else 0) := by
  unfold Jvm.Pilot.CCensusNightLaw_law_r3549_233597.sk
  rcases h.ca with ⟨a, b, c, d⟩ | ⟨a, b, b2, c, d, -⟩ | ⟨a, b, c, d, e⟩
  · rw [a, b, d]; decide
  · rw [a, d, if_pos rfl, if_neg (by rw [b]; exact inR_m1 b2)]; decide
  · rw [a, if_neg (by rw [d]; exact inR_m1 e)]; decide
theorem IvS.skD {s : Nat} (h : IvS dc C M CL ML s) : skD C s = (if M 60 s = nI 2 then 0 else if M 60 s = nI 1 then 2 else 3) := by
  unfold Jvm.Pilot.CCensusNightLaw_law_r3549_233597.skD
  rcases h.ca with ⟨a, b, c, d⟩ | ⟨a, b, b2, c, d, -⟩ | ⟨a, b, c, d, e⟩
  · rw [a, b, d]; decide
  · rw [a, if_neg (by rw [b]; exact inR_m1 b2)]; decide
  · rw [a, b, if_pos rfl, if_neg (by rw [d]; exact inR_m1 e)]; decide
theorem IvS.row {s : Nat} (h : IvS dc C M CL ML s) (h1 : M 60 s = nI 1) : C (23 + 2 * s) 1 = M 61 s ∧ inR (M 61 s) 4 ∧ C (23 + 2 * s) 2 = M 62 s ∧ C (23 + 2 * s) 3 = -1 ∧ (¬ M 61 s = nI 3 → ∀ j, j < 30 → ¬ CL (23 + 2 * s + 1) j = -9223372036854775808) := by
  rcases h.ca with ⟨a, -⟩ | ⟨a, b⟩ | ⟨a, -⟩
  · rw [a] at h1; exact absurd h1 (by decide)
  · exact b
  · rw [a] at h1; exact absurd h1 (by decide)
theorem IvS.not {s : Nat} (h : IvS dc C M CL ML s) (h1 : ¬ M 60 s = nI 1) : C (23 + 2 * s) 1 = -1 ∧ C (23 + 2 * s) 2 = nI 0 := by
  rcases h.ca with ⟨a, b, c, -⟩ | ⟨a, b⟩ | ⟨a, b, c, -⟩
  · exact ⟨b, c⟩
  · exact absurd a h1
  · exact ⟨b, c⟩
theorem IvS.h60 {s : Nat} (h : IvS dc C M CL ML s) : M 60 s = 0 ∨ M 60 s = nI 1 ∨ M 60 s = nI 2 := by
  rcases h.ca with ⟨a, -⟩ | ⟨a, -⟩ | ⟨a, -⟩
  · exact Or.inl a
  · exact Or.inr (Or.inl a)
  · exact Or.inr (Or.inr a)
theorem s8 {s : Int32} (h : inR s 8) : tn s < 8 := (ix_R (by decide) h).2.1
theorem Iv.mk0 (h : Iv dc C M CL ML) (s : Int32) : (if inR s 8 then Jvm.Pilot.CCensusNightLaw_law_r3549_233597.sk C (tn s) else 1) = Jvm.Pilot.CCensusNightLaw_law_r3549_233597.mk0 M s := by
  unfold Jvm.Pilot.CCensusNightLaw_law_r3549_233597.mk0
  by_cases hs : inR s 8
  · rw [if_pos hs, if_pos hs]
    exact (h.k6 _ (s8 hs)).sk
  · rw [if_neg hs, if_neg hs]
theorem Iv.row1 (h : Iv dc C M CL ML) {s : Int32} (hm : Jvm.Pilot.CCensusNightLaw_law_r3549_233597.mk0 M s = 0) : inR s 8 ∧ M 60 (tn s) = nI 1 := by
  unfold Jvm.Pilot.CCensusNightLaw_law_r3549_233597.mk0 at hm
  by_cases hs : inR s 8
  · rw [if_pos hs] at hm
    refine ⟨hs, ?_⟩
    rcases (h.k6 _ (s8 hs)).h60 with a | a | a
    · rw [a] at hm; exact absurd hm (by decide)
    · exact a
    · rw [a] at hm; exact absurd hm (by decide)
  · rw [if_neg hs] at hm; cases hm
theorem d24 {b : Int32} (h : Iv dc C M CL ML) (hb : inR b dc) : tn b < dc ∧ b = nI (tn b) := tn_lt rfl (by have := h.k12.1; omega) hb
/-- a head is struck -/
theorem IvD.sb {d j : Nat} (h : IvD C M d) (hj : j < tn (M 46 d)) : sbit (C (78 + 3 * d) 9) (nI j) ↔ ¬ M 53 (12 * d + j) = 0 := by
  have := h.b8.2.2
  rw [sb_iff (by omega), h.st j, decide_eq_true hj, Bool.true_and, decide_eq_true_iff]
theorem IvD.bc {d : Nat} (h : IvD C M d) : bc32 (C (78 + 3 * d) 9) = nI (ct (pSt M d) (mny M d)) := by
  have h12 : tn (M 46 d) ≤ 12 := h.b8.2.2
  have h13 : mny M d ≤ 12 := h12
  rw [bc_ct (fun j hj => by rw [h.st j, decide_eq_false (by omega)]; rfl)]
  congr 1
  rw [show (24 : Nat) = mny M d + (24 - mny M d) by omega, ct_split]
  have e1 : ct (fun k => gb (C (78 + 3 * d) 9) (mny M d + k)) (24 - mny M d) = 0 := by
    have : ∀ n, ct (fun k => gb (C (78 + 3 * d) 9) (mny M d + k)) n = 0 := by
      intro n
      induction n with
      | zero => rfl
      | succ n ih => rw [ct_f (by show gb (C (78 + 3 * d) 9) (mny M d + n) = false; rw [h.st, decide_eq_false (show ¬ mny M d + n < mny M d by omega)]; rfl), ih]
    exact this _
  rw [e1, Nat.add_zero]
  refine ct_cong fun k hk => ?_
  rw [h.st k, decide_eq_true hk, Bool.true_and]
  rfl
theorem bnd_mbd {a : Int32} (h : a = -2 ∨ 0 ≤ a) : bnd a = mbd a := by
  rcases h with rfl | h
  · decide
  · have e : ¬ a = -2 := fun z => by rw [z] at h; exact absurd h (by decide)
    have q : ∀ n : Nat, n < 1000 → ((nI n < a) ↔ nI (n + 1) ≤ a) := fun n hn => by
      rw [Int32.lt_iff_toInt_lt, Int32.le_iff_toInt_le, nI_toInt (by omega), nI_toInt (by omega)]
      omega
    unfold bnd mbd
    rw [if_neg e, if_pos h]
    by_cases h1 : nI 17 < a
    · rw [if_neg (fun z => z h1), if_pos ((q 17 (by decide)).mp h1)]
      by_cases h2 : nI 64 < a
      · rw [if_neg (fun z => z h2), if_pos ((q 64 (by decide)).mp h2)]
      · rw [if_pos h2, if_neg (fun z => h2 ((q 64 (by decide)).mpr z))]
    · rw [if_pos h1, if_neg (fun z => h1 ((q 17 (by decide)).mpr z))]
theorem IvD.tel {d : Nat} (h : IvD C M d) (w : Int32) : telD C d w = mTel M d w := by
  unfold telD mTel
  rw [h.b6, h.b7.1, h.b8.1, h.bc, h.b10, h.b11]
theorem IvD.cnt {d : Nat} (h : IvD C M d) : fCnt C d = mCnt M d := by
  unfold fCnt mCnt
  rw [h.b8.1, h.bc]
theorem IvD.bd {d : Nat} (h : IvD C M d) (v : Int32) : fBd C v d = mBd M v d := by
  unfold fBd mBd
  congr 1
  rw [hdn, h.b8.1]
  refine ct_cong fun j hj => ?_
  have hj2 := h.b8.2.2
  unfold pB pMB
  rw [(h.ag j hj).1, bnd_mbd (h.ag j hj).2]
  exact decide_eq_decide.mpr ⟨fun z => ⟨Classical.byContradiction fun y => z.1 ((h.sb hj).mpr y), z.2⟩, fun z => ⟨fun y => (h.sb hj).mp y z.1, z.2⟩⟩
theorem Iv.sc (h : Iv dc C M CL ML) (b v w : Int32) : sC (pCo C b w) (fBd C v) dc = sC (mCo M b w) (mBd M v) dc := by
  refine sC_cong fun d hd => ?_
  have hD := h.k7 d hd
  refine ⟨?_, fun _ => hD.bd v⟩
  unfold pCo mCo
  rw [hD.b0.1, hD.b6]
end SEE
/-! calls that change nothing -/
section RD
variable {G : GG} {dc : Nat} {I : Nat → Nat → Int32} {L : Nat → Nat → Int64}
theorem op_element (h : Inv dc I L) (s i : Int32) : OpL G yX8_element cX8_element 3 1 yX9_element cX9_element 3 1 [.int s, .int i] dc I L := by
  refine OpL.rd (c_X8_element h.wx) (c_X9_element h.wm) ?_ h
  by_cases hs : inR s 8
  · rw [if_pos hs, if_pos hs]
    have h1 := h.k6 _ (s8 hs)
    by_cases h2 : I 60 (tn s) = nI 1
    · rw [if_pos h2, (h1.row h2).2.2.1]
      by_cases h3 : ¬ i < 0 ∧ ¬ I 62 (tn s) ≤ i
      · rw [if_pos h3, if_pos h3]
        have := tn_lt h1.sz.1 (by have := h1.sz.2; omega) h3
        exact h1.el _ (by have := h1.sz.2; omega)
      · rw [if_neg h3, if_neg h3]
    · rw [if_neg h2, (h1.not h2).2, if_neg no0]
  · rw [if_neg hs, if_neg hs]
theorem op_holds (h : Inv dc I L) (s : Int32) : OpI G yX8_holds cX8_holds 2 2 0 0 yX9_holds cX9_holds 2 1 [.int s] dc I L := by
  refine OpI.rd c_X8_holds c_X9_holds ?_ h
  by_cases hs : inR s 8
  · rw [if_pos hs, if_pos hs]
    have h1 := h.k6 _ (s8 hs)
    rcases h1.ca with ⟨a, b, c, d⟩ | ⟨a, b, b2, c, d, -⟩ | ⟨a, b, c, d, e⟩
    · rw [a, b, d, if_neg (fun z => z rfl), if_pos rfl]
    · rw [a, if_pos (by rw [b]; exact inR_m1 b2), if_neg (by decide), if_neg (by decide), b]
    · rw [a, b, if_neg (by decide), if_neg (by decide), if_pos rfl, d]
  · rw [if_neg hs, if_neg hs]
theorem op_fault (h : Inv dc I L) : OpI G yX8_fault cX8_fault 1 0 0 0 yX9_fault cX9_fault 1 0 [] dc I L := OpI.rd c_X8_fault c_X9_fault h.k2.2.2.2 h
theorem op_walk (h : Inv dc I L) (b : Int32) : OpI G yX8_walk cX8_walk 2 1 0 0 yX9_walk cX9_walk 2 1 [.int b] dc I L := by
  refine OpI.rd c_X8_walk c_X9_walk ?_ h
  by_cases hb : inR b 6
  · rw [if_pos hb, if_pos hb]; exact h.k10 _ (ix_R (by decide) hb).2.1
  · rw [if_neg hb, if_neg hb]
theorem op_from (h : Inv dc I L) (b : Int32) : OpI G yX8_from cX8_from 3 2 0 0 yX9_from cX9_from 2 1 [.int b] dc I L := by
  refine OpI.rd (c_X8_from h.wx) (c_X9_from h.wm) ?_ h
  by_cases hb : inR b dc
  · rw [if_pos hb, if_pos hb]; exact (h.k7 _ (d24 h hb).1).b12
  · rw [if_neg hb, if_neg hb]
theorem op_about (h : Inv dc I L) (b w : Int32) : OpI G yX8_about cX8_about 4 2 0 0 yX9_about cX9_about 3 1 [.int b, .int w] dc I L := by
  refine OpI.rd (c_X8_about h.wx) (c_X9_about h.wm) ?_ h
  by_cases hb : inR b dc
  · rw [if_pos hb, if_pos hb]; exact (h.k7 _ (d24 h hb).1).tel w
  · rw [if_neg hb, if_neg hb]
theorem op_age (h : Inv dc I L) (b i : Int32) : OpI G yX8_age cX8_age 4 2 0 0 yX9_age cX9_age 3 1 [.int b, .int i] dc I L := by
  refine OpI.rd (c_X8_age h.wx) (c_X9_age h.wm) ?_ h
  by_cases hb : inR b dc
  · rw [if_pos hb, if_pos hb]
    have hD := h.k7 _ (d24 h hb).1
    rw [hD.b8.1]
    by_cases h3 : ¬ i < 0 ∧ ¬ I 46 (tn b) ≤ i
    · rw [if_pos h3, if_pos h3]
      exact (hD.ag _ (tn_lt hD.b8.2.1 (by have := hD.b8.2.2; omega) h3).1).1
    · rw [if_neg h3, if_neg h3]
  · rw [if_neg hb, if_neg hb]
theorem inR4 {v : Int32} : (if v < 0 then (0 : Nat) else if v < nI 4 then 1 else 0) = if inR v 4 then 1 else 0 := by
  by_cases h1 : v < 0
  · rw [if_pos h1, if_neg (fun z => z.1 h1)]
  · rw [if_neg h1]
    by_cases h2 : v < nI 4
    · rw [if_pos h2, if_pos ⟨h1, fun z => absurd h2 (Int32.not_lt.mpr z)⟩]
    · rw [if_neg h2, if_neg (fun z => z.2 (Int32.not_lt.mp h2))]
theorem op_count (h : Inv dc I L) (b v w : Int32) : OpI G yX8_count cX8_count 7 2 0 0 yX9_count cX9_count 4 2 [.int b, .int v, .int w] dc I L := by
  refine OpI.rd (c_X8_count h.wx) (c_X9_count h.wm) ?_ h
  rw [h.sc]
  by_cases hb : inR b 6
  · rw [if_pos hb, if_pos hb]
    by_cases h1 : v < 0
    · rw [if_pos h1, if_neg (fun z => z.1 h1)]
    · rw [if_neg h1]
      by_cases h2 : v < nI 4
      · rw [if_pos h2, if_pos ⟨h1, fun z => absurd h2 (Int32.not_lt.mpr z)⟩]
      · rw [if_neg h2, if_neg (fun z => z.2 (Int32.not_lt.mp h2))]
  · rw [if_neg hb, if_neg hb]
theorem Iv.bs (h : Inv dc I L) {q : Nat} (hq : q < 4) : ∀ n, n ≤ 9 → bsh I q n = msh I q n ∧ bsh I q n ≤ 9
  | 0, _ => ⟨rfl, Nat.zero_le _⟩
  | n + 1, hn => by
    obtain ⟨h1, h2⟩ := Iv.bs h hq n (by omega)
    have e : grt I (q * 10 + (n + 1)) (q * 10 + bsh I q n) ↔ mgr I (10 * q + (n + 1)) (10 * q + msh I q n) := by
      unfold grt mgr
      rw [← h1, show 10 * q = q * 10 by omega, (h.k4.1 (q * 10 + (n + 1)) (by omega)).1, (h.k4.1 (q * 10 + (n + 1)) (by omega)).2, (h.k4.1 (q * 10 + bsh I q n) (by omega)).1, (h.k4.1 (q * 10 + bsh I q n) (by omega)).2]
    rw [bsh, msh]
    by_cases hg : grt I (q * 10 + (n + 1)) (q * 10 + bsh I q n)
    · rw [if_pos hg, if_pos (e.mp hg)]; exact ⟨rfl, by omega⟩
    · rw [if_neg hg, if_neg (fun z => hg (e.mpr z))]; exact ⟨h1, h2⟩
theorem op_bestHour (h : Inv dc I L) (b : Int32) : OpI G yX8_bestHour cX8_bestHour 2 2 0 0 yX9_bestHour cX9_bestHour 6 1 [.int b] dc I L := by
  refine OpI.rd c_X8_bestHour c_X9_bestHour ?_ h
  by_cases hb : inR b 4
  · rw [if_pos hb, if_pos hb, (Iv.bs h (ix_R (by decide) hb).2.1 9 (by decide)).1]
  · rw [if_neg hb, if_neg hb]
end RD
