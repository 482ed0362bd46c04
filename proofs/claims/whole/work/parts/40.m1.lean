/-! ===== the model's own methods ===== -/
theorem lcmp_lt {a b : Int64} : lg_cmp a b < 0 ↔ a < b := by
  unfold lg_cmp
  by_cases h : a > b
  · rw [if_pos h]
    exact ⟨fun q => absurd q (by decide), fun q => (Int64.lt_irrefl (Int64.lt_trans q h)).elim⟩
  · rw [if_neg h]
    by_cases h2 : a = b
    · rw [if_pos h2]; subst h2
      exact ⟨fun q => absurd q (by decide), fun q => (Int64.lt_irrefl q).elim⟩
    · rw [if_neg h2]
      refine ⟨fun _ => ?_, fun _ => by decide⟩
      rw [Int64.lt_iff_toInt_lt]
      have h3 : ¬ b.toInt < a.toInt := fun q => h (Int64.lt_iff_toInt_lt.mpr q)
      have h4 : a.toInt ≠ b.toInt := fun q => h2 (Int64.toInt_inj.mp q)
      omega
theorem lcmp_gt {a b : Int64} : lg_cmp a b ≤ 0 ↔ ¬ b < a := by
  unfold lg_cmp
  by_cases h : a > b
  · rw [if_pos h]
    exact ⟨fun q => absurd q (by decide), fun q => absurd h q⟩
  · rw [if_neg h]
    by_cases h2 : a = b
    · rw [if_pos h2]; subst h2
      exact ⟨fun _ => h, fun _ => by decide⟩
    · rw [if_neg h2]
      exact ⟨fun _ => h, fun _ => by decide⟩
theorem lcmp_g {a b : Int64} : 0 < lg_cmp a b ↔ b < a := by
  have h := lcmp_gt (a := a) (b := b)
  refine ⟨fun q => Classical.byContradiction fun z => ?_, fun q => Classical.byContradiction fun z => ?_⟩
  · have h1 := h.mpr z
    rw [Int32.le_iff_toInt_le] at h1
    rw [Int32.lt_iff_toInt_lt] at q
    omega
  · refine h.mp ?_ q
    rw [Int32.le_iff_toInt_le]
    rw [Int32.lt_iff_toInt_lt] at z
    omega
theorem i64_lt {a b : Int32} : a.toInt64 < b.toInt64 ↔ a < b := by
  rw [Int64.lt_iff_toInt_lt, Int32.lt_iff_toInt_lt, Int32.toInt_toInt64, Int32.toInt_toInt64]
/-- a refusal of the model -/
def rms (I : Nat → Nat → Int32) (k : Nat) : Nat → Nat → Int32 := u2 I 59 k (I 59 k + nI 1)
def pM (k dc : Nat) (I : Nat → Nat → Int32) (L : Nat → Nat → Int64) (μ : Mem) : Mem := if k = 0 then μ else Mm dc (rms I k) L
theorem pM0 (dc : Nat) (I : Nat → Nat → Int32) (L : Nat → Nat → Int64) (μ : Mem) : pM 0 dc I L μ = μ := rfl
theorem pMk {k : Nat} (h : k ≠ 0) (dc : Nat) (I : Nat → Nat → Int32) (L : Nat → Nat → Int64) (μ : Mem) : pM k dc I L μ = Mm dc (rms I k) L := if_neg h

set_option maxRecDepth 4000 in
theorem c_X9_isIn {G : GG} {μ : Mem} {x y z : Int64} : Cn G yX9_isIn cX9_isIn 6 (some .boolean) 0 0 0 [.long x, .long y, .long z] μ (Is (some (.int (bI (¬ x < y ∧ ¬ z < x)))) μ) := by
  refine Cn.of' (by decide) (Nat.le_of_ble_eq_true rfl) rfl ?_
  refine v_lld0 dX9_isIn_0 ?_
  refine v_lld2 dX9_isIn_1 ?_
  refine v_lcmp dX9_isIn_2 ?_
  refine v_if_lt (tgt := 17) dX9_isIn_3 (by decide) (fun h3 => ?_) (fun h3 => ?_)
  · refine v_icN (n := 0) dX9_isIn_17 (by decide) ?_
    exact v_retI dX9_isIn_18 (by first | exact Or.inl rfl | exact Or.inr rfl | exact bI_01) (by refine ⟨?_, rfl⟩; rw [bI_f (fun q => q.1 (lcmp_lt.mp h3))])
  · refine v_lld0 dX9_isIn_6 ?_
    refine v_lld4 dX9_isIn_7 ?_
    refine v_lcmp dX9_isIn_9 ?_
    refine v_if_gt (tgt := 17) dX9_isIn_10 (by decide) (fun h10 => ?_) (fun h10 => ?_)
    · refine v_icN (n := 0) dX9_isIn_17 (by decide) ?_
      exact v_retI dX9_isIn_18 (by first | exact Or.inl rfl | exact Or.inr rfl | exact bI_01) (by refine ⟨?_, rfl⟩; rw [bI_f (fun q => q.2 (lcmp_g.mp h10))])
    · refine v_icN (n := 1) dX9_isIn_13 (by decide) ?_
      refine v_goto (tgt := 18) dX9_isIn_14 (by decide) ?_
      exact v_retI dX9_isIn_18 (by first | exact Or.inl rfl | exact Or.inr rfl | exact bI_01) (by refine ⟨?_, rfl⟩; rw [bI_t ⟨fun q => h3 (lcmp_lt.mpr q), fun q => h10 (lcmp_g.mpr q)⟩])

theorem bI_iff' {a b : Prop} [Decidable a] [Decidable b] (h : a ↔ b) : bI a = bI b := by
  by_cases q : a
  · rw [bI_t q, bI_t (h.mp q)]
  · rw [bI_f q, bI_f (fun z => q (h.mpr z))]
theorem c_isIn {G : GG} {μ : Mem} {b lo hi : Int32} {y z : Int64} (hy : y = lo.toInt64) (hz : z = hi.toInt64) : Cn G yX9_isIn cX9_isIn 6 (some .boolean) 0 0 0 [.long b.toInt64, .long y, .long z] μ (Is (some (.int (bI (¬ b < lo ∧ ¬ hi < b)))) μ) := by
  have h := c_X9_isIn (G := G) (μ := μ) (x := b.toInt64) (y := y) (z := z)
  rw [bI_iff' (b := ¬ b < lo ∧ ¬ hi < b) (by rw [hy, hz, i64_lt, i64_lt])] at h
  exact h
theorem nlt_s {b : Int32} {N : Nat} (hN : N + 1 < 2 ^ 31) : (¬ nI N < b) ↔ ¬ nI (N + 1) ≤ b := by
  rw [Int32.lt_iff_toInt_lt, Int32.le_iff_toInt_le, nI_toInt (by omega), nI_toInt hN]
  omega
theorem c_isInR {G : GG} {μ : Mem} {b : Int32} (N : Nat) {y z : Int64} (hN : N + 1 < 2 ^ 31) (hy : y = (0 : Int32).toInt64) (hz : z = (nI N).toInt64) : Cn G yX9_isIn cX9_isIn 6 (some .boolean) 0 0 0 [.long b.toInt64, .long y, .long z] μ (Is (some (.int (bI (inR b (N + 1))))) μ) := by
  have h := c_isIn (G := G) (μ := μ) (b := b) hy hz
  rw [bI_iff' (b := inR b (N + 1)) (and_congr_right fun _ => nlt_s hN)] at h
  exact h
theorem c_isInS {G : GG} {μ : Mem} {b x : Int32} {n : Nat} {y : Int64} (hn : n < 2 ^ 31) (hx : x = nI n) (hy : y = (0 : Int32).toInt64) : Cn G yX9_isIn cX9_isIn 6 (some .boolean) 0 0 0 [.long b.toInt64, .long y, .long (x - nI 1).toInt64] μ (Is (some (.int (bI (¬ b < 0 ∧ ¬ x ≤ b)))) μ) := by
  have h := c_isIn (G := G) (μ := μ) (b := b) (lo := 0) (hi := x - nI 1) (y := y) hy rfl
  rw [bI_iff' (b := ¬ b < 0 ∧ ¬ x ≤ b) (and_congr_right fun hb => ?_)] at h
  · exact h
  · rw [Int32.lt_iff_toInt_lt, Int32.toInt_zero] at hb
    subst hx
    cases n with
    | zero =>
      rw [Int32.lt_iff_toInt_lt, Int32.le_iff_toInt_le, show (nI 0 - nI 1).toInt = -1 by decide, show (nI 0).toInt = 0 by decide]
      omega
    | succ n =>
      rw [show nI (n + 1) - nI 1 = nI n by rw [nI_succ, nI_one]; exact Int32.add_sub_cancel _ _]
      exact nlt_s hn

set_option maxRecDepth 4000 in
theorem c_X9_no {G : GG} {dc : Nat} {I : Nat → Nat → Int32} {L : Nat → Nat → Int64} {k : Nat} {x : Int32} (hx : x = -(nI k)) (hk : k < 8) (hk1 : 1 ≤ k) : Cn G yX9_no cX9_no 2 (some .int) 0 0 0 [.ref 39, .int x] (Mm dc I L) (Is (some (.int (-(nI k)))) (Mm dc (rms I k) L)) := by
  subst hx
  refine Cn.of' (by decide) (Nat.le_of_ble_eq_true rfl) rfl ?_
  refine v_ald0 dX9_no_0 ?_
  refine v_getP (q := 59) dX9_no_1 fl_X9_81 (by first | rfl | exact lay_door (by omega) | exact lay_dt (by omega) | exact lay_da (by omega) | exact lay_sh (by omega) | exact lay_se (by omega)) rfl (by omega) rfl ?_
  refine v_ild1 dX9_no_4 ?_
  refine v_ineg dX9_no_5 ?_
  rw [(ngs k hk hk1).2.2.1]
  refine v_dup2 dX9_no_6 ?_
  refine v_iald dX9_no_7 (by first | rfl | exact lay_door (by omega) | exact lay_dt (by omega) | exact lay_da (by omega) | exact lay_sh (by omega) | exact lay_se (by omega)) (by omega) ⟨rfl, hk, by decide⟩ ?_
  refine v_icN (n := 1) dX9_no_8 (by decide) ?_
  refine v_iadd dX9_no_9 ?_
  refine v_iast dX9_no_10 (by first | rfl | exact lay_door (by omega) | exact lay_dt (by omega) | exact lay_da (by omega) | exact lay_sh (by omega) | exact lay_se (by omega)) (by omega) ⟨rfl, hk, by decide⟩ ?_
  refine v_ild1 dX9_no_11 ?_
  exact v_retI dX9_no_12 trivial ⟨rfl, rfl⟩

set_option maxRecDepth 4000 in
theorem c_X9_isBlock {G : GG} {μ : Mem} {b : Int32} : Cn G yX9_isBlock cX9_isBlock 1 (some .boolean) 0 0 0 [.int b] μ (Is (some (.int (bI (inR b 6)))) μ) := by
  refine Cn.of' (by decide) (Nat.le_of_ble_eq_true rfl) rfl ?_
  refine v_ild0 dX9_isBlock_0 ?_
  refine v_if_lt (tgt := 14) dX9_isBlock_1 (by decide) (fun h1 => ?_) (fun h1 => ?_)
  · refine v_icN (n := 0) dX9_isBlock_14 (by decide) ?_
    exact v_retI dX9_isBlock_15 (by first | exact Or.inl rfl | exact Or.inr rfl | exact bI_01) (by refine ⟨?_, rfl⟩; simp [bI, *])
  · refine v_ild0 dX9_isBlock_4 ?_
    refine v_bipush (v := nI 6) dX9_isBlock_5 (by decide) ?_
    refine v_icmp_ge (tgt := 14) dX9_isBlock_7 (by decide) (fun h7 => ?_) (fun h7 => ?_)
    · refine v_icN (n := 0) dX9_isBlock_14 (by decide) ?_
      exact v_retI dX9_isBlock_15 (by first | exact Or.inl rfl | exact Or.inr rfl | exact bI_01) (by refine ⟨?_, rfl⟩; simp [bI, *])
    · refine v_icN (n := 1) dX9_isBlock_10 (by decide) ?_
      refine v_goto (tgt := 15) dX9_isBlock_11 (by decide) ?_
      exact v_retI dX9_isBlock_15 (by first | exact Or.inl rfl | exact Or.inr rfl | exact bI_01) (by refine ⟨?_, rfl⟩; simp [bI, *])

set_option maxRecDepth 4000 in
theorem c_X9_isShelf {G : GG} {μ : Mem} {b : Int32} : Cn G yX9_isShelf cX9_isShelf 1 (some .boolean) 0 0 0 [.int b] μ (Is (some (.int (bI (inR b 8)))) μ) := by
  refine Cn.of' (by decide) (Nat.le_of_ble_eq_true rfl) rfl ?_
  refine v_ild0 dX9_isShelf_0 ?_
  refine v_if_lt (tgt := 14) dX9_isShelf_1 (by decide) (fun h1 => ?_) (fun h1 => ?_)
  · refine v_icN (n := 0) dX9_isShelf_14 (by decide) ?_
    exact v_retI dX9_isShelf_15 (by first | exact Or.inl rfl | exact Or.inr rfl | exact bI_01) (by refine ⟨?_, rfl⟩; simp [bI, *])
  · refine v_ild0 dX9_isShelf_4 ?_
    refine v_bipush (v := nI 8) dX9_isShelf_5 (by decide) ?_
    refine v_icmp_ge (tgt := 14) dX9_isShelf_7 (by decide) (fun h7 => ?_) (fun h7 => ?_)
    · refine v_icN (n := 0) dX9_isShelf_14 (by decide) ?_
      exact v_retI dX9_isShelf_15 (by first | exact Or.inl rfl | exact Or.inr rfl | exact bI_01) (by refine ⟨?_, rfl⟩; simp [bI, *])
    · refine v_icN (n := 1) dX9_isShelf_10 (by decide) ?_
      refine v_goto (tgt := 15) dX9_isShelf_11 (by decide) ?_
      exact v_retI dX9_isShelf_15 (by first | exact Or.inl rfl | exact Or.inr rfl | exact bI_01) (by refine ⟨?_, rfl⟩; simp [bI, *])

set_option maxRecDepth 4000 in
theorem c_X9_isDoor {G : GG} {dc : Nat} {I : Nat → Nat → Int32} {L : Nat → Nat → Int64} {b : Int32} : Cn G yX9_isDoor cX9_isDoor 2 (some .boolean) 0 0 0 [.ref 39, .int b] (Mm dc I L) (Is (some (.int (bI (¬ b < 0 ∧ ¬ I 39 17 ≤ b)))) (Mm dc I L)) := by
  refine Cn.of' (by decide) (Nat.le_of_ble_eq_true rfl) rfl ?_
  refine v_ild1 dX9_isDoor_0 ?_
  refine v_if_lt (tgt := 16) dX9_isDoor_1 (by decide) (fun h1 => ?_) (fun h1 => ?_)
  · refine v_icN (n := 0) dX9_isDoor_16 (by decide) ?_
    exact v_retI dX9_isDoor_17 (by first | exact Or.inl rfl | exact Or.inr rfl | exact bI_01) (by refine ⟨?_, rfl⟩; simp [bI, *])
  · refine v_ild1 dX9_isDoor_4 ?_
    refine v_ald0 dX9_isDoor_5 ?_
    refine v_getI dX9_isDoor_6 fl_X9_139 (by first | rfl | exact lay_door (by omega) | exact lay_dt (by omega) | exact lay_da (by omega) | exact lay_sh (by omega) | exact lay_se (by omega)) rfl (by omega) ?_
    refine v_icmp_ge (tgt := 16) dX9_isDoor_9 (by decide) (fun h9 => ?_) (fun h9 => ?_)
    · refine v_icN (n := 0) dX9_isDoor_16 (by decide) ?_
      exact v_retI dX9_isDoor_17 (by first | exact Or.inl rfl | exact Or.inr rfl | exact bI_01) (by refine ⟨?_, rfl⟩; simp [bI, *])
    · refine v_icN (n := 1) dX9_isDoor_12 (by decide) ?_
      refine v_goto (tgt := 17) dX9_isDoor_13 (by decide) ?_
      exact v_retI dX9_isDoor_17 (by first | exact Or.inl rfl | exact Or.inr rfl | exact bI_01) (by refine ⟨?_, rfl⟩; simp [bI, *])

set_option maxRecDepth 4000 in
theorem c_X9_lesser {G : GG} {μ : Mem} {a b : Int32} : Cn G yX9_lesser cX9_lesser 2 (some .int) 0 0 0 [.int a, .int b] μ (Is (some (.int (if b ≤ a then b else a))) μ) := by
  refine Cn.of' (by decide) (Nat.le_of_ble_eq_true rfl) rfl ?_
  refine v_ild0 dX9_lesser_0 ?_
  refine v_ild1 dX9_lesser_1 ?_
  refine v_icmp_ge (tgt := 9) dX9_lesser_2 (by decide) (fun h2 => ?_) (fun h2 => ?_)
  · refine v_ild1 dX9_lesser_9 ?_
    exact v_retI dX9_lesser_10 trivial (by simp only [if_pos h2]; exact ⟨rfl, rfl⟩)
  · refine v_ild0 dX9_lesser_5 ?_
    refine v_goto (tgt := 10) dX9_lesser_6 (by decide) ?_
    exact v_retI dX9_lesser_10 trivial (by simp only [if_neg h2]; exact ⟨rfl, rfl⟩)

set_option maxRecDepth 4000 in
theorem c_X9_fit {G : GG} {μ : Mem} {t : Int32} {v : Int64} : Cn G yX9_fit cX9_fit 3 (some .long) 0 0 0 [.int t, .long v] μ (Is (some (.long (lowB t v))) μ) := by
  refine Cn.of' (by decide) (Nat.le_of_ble_eq_true rfl) rfl ?_
  refine v_ild0 dX9_fit_0 ?_
  refine v_if_ne (tgt := 11) dX9_fit_1 (by decide) (fun h1 => ?_) (fun h1 => ?_)
  · refine v_ild0 dX9_fit_11 ?_
    refine v_icN (n := 1) dX9_fit_12 (by decide) ?_
    refine v_icmp_ne (tgt := 23) dX9_fit_13 (by decide) (fun h13 => ?_) (fun h13 => ?_)
    · refine v_ild0 dX9_fit_23 ?_
      refine v_icN (n := 2) dX9_fit_24 (by decide) ?_
      refine v_icmp_ne (tgt := 34) dX9_fit_25 (by decide) (fun h25 => ?_) (fun h25 => ?_)
      · refine v_lld1 dX9_fit_34 ?_
        exact v_retL dX9_fit_35 trivial (by refine ⟨?_, rfl⟩; have e0 : nI 0 = 0 := rfl; simp only [lowB, e0, if_neg h1, if_neg h13, if_neg h25])
      · refine v_lld1 dX9_fit_28 ?_
        refine v_l2i dX9_fit_29 ?_
        refine v_i2l dX9_fit_30 ?_
        refine v_goto (tgt := 35) dX9_fit_31 (by decide) ?_
        exact v_retL dX9_fit_35 trivial (by refine ⟨?_, rfl⟩; have e0 : nI 0 = 0 := rfl; simp only [lowB, e0, if_neg h1, if_neg h13, if_pos h25])
    · refine v_lld1 dX9_fit_16 ?_
      refine v_l2i dX9_fit_17 ?_
      refine v_i2s dX9_fit_18 ?_
      refine v_i2l dX9_fit_19 ?_
      refine v_goto (tgt := 35) dX9_fit_20 (by decide) ?_
      exact v_retL dX9_fit_35 trivial (by refine ⟨?_, rfl⟩; have e0 : nI 0 = 0 := rfl; simp only [lowB, e0, if_neg h1, if_pos h13])
  · refine v_lld1 dX9_fit_4 ?_
    refine v_l2i dX9_fit_5 ?_
    refine v_i2b dX9_fit_6 ?_
    refine v_i2l dX9_fit_7 ?_
    refine v_goto (tgt := 35) dX9_fit_8 (by decide) ?_
    exact v_retL dX9_fit_35 trivial (by refine ⟨?_, rfl⟩; have e0 : nI 0 = 0 := rfl; simp only [lowB, e0, if_pos h1])

set_option maxRecDepth 4000 in
theorem c_X9_isLeast {G : GG} {μ : Mem} {t : Int32} {v : Int64} : Cn G yX9_isLeast cX9_isLeast 3 (some .boolean) 0 0 0 [.int t, .long v] μ (Is (some (.int (bI (t = nI 3 ∧ v = -9223372036854775808)))) μ) := by
  refine Cn.of' (by decide) (Nat.le_of_ble_eq_true rfl) rfl ?_
  refine v_ild0 dX9_isLeast_0 ?_
  refine v_icN (n := 3) dX9_isLeast_1 (by decide) ?_
  refine v_icmp_ne (tgt := 17) dX9_isLeast_2 (by decide) (fun h2 => ?_) (fun h2 => ?_)
  · refine v_icN (n := 0) dX9_isLeast_17 (by decide) ?_
    exact v_retI dX9_isLeast_18 (by first | exact Or.inl rfl | exact Or.inr rfl | exact bI_01) (by refine ⟨?_, rfl⟩; rw [bI_f (fun q => h2 q.1)])
  · refine v_lld1 dX9_isLeast_5 ?_
    refine v_ldc2 dX9_isLeast_6 kc_X9_188 ?_
    refine v_lcmp dX9_isLeast_9 ?_
    refine v_if_ne (tgt := 17) dX9_isLeast_10 (by decide) (fun h10 => ?_) (fun h10 => ?_)
    · refine v_icN (n := 0) dX9_isLeast_17 (by decide) ?_
      exact v_retI dX9_isLeast_18 (by first | exact Or.inl rfl | exact Or.inr rfl | exact bI_01) (by refine ⟨?_, rfl⟩; rw [bI_f (fun q => h10 (lcmp0.mpr q.2))])
    · refine v_icN (n := 1) dX9_isLeast_13 (by decide) ?_
      refine v_goto (tgt := 18) dX9_isLeast_14 (by decide) ?_
      exact v_retI dX9_isLeast_18 (by first | exact Or.inl rfl | exact Or.inr rfl | exact bI_01) (by refine ⟨?_, rfl⟩; rw [bI_t ⟨h2, lcmp0.mp h10⟩])

theorem rg_le {x : Int32} {N q : Nat} (h : rg x N) (hN : N < 2 ^ 31) (hq : q < 2 ^ 31) : x ≤ nI q ↔ tn x ≤ q := by
  have h1 := h.1
  have h2 := h.2
  rw [Int32.le_iff_toInt_le, nI_toInt hq]
  rw [h1, nI_toInt (by omega), ← h1]
  omega
theorem rg_lt {x : Int32} {N q : Nat} (h : rg x N) (hN : N < 2 ^ 31) (hq : q < 2 ^ 31) : (¬ x ≤ nI q) ↔ q < tn x := by
  rw [rg_le h hN hq]; omega
/-- what the model's walks rest on -/
def Wm (dc : Nat) (I : Nat → Nat → Int32) : Prop := dc ≤ 24 ∧ I 39 17 = nI dc ∧ (∀ s, s < 8 → rg (I 62 s) 30 ∧ (I 60 s = nI 2 → inR (I 61 s) dc)) ∧ ∀ d, d < dc → rg (I 40 d) 5 ∧ rg (I 41 d) 3 ∧ rg (I 43 d) 12 ∧ rg (I 46 d) 12
theorem Wm.sz {dc : Nat} {I : Nat → Nat → Int32} (h : Wm dc I) {s : Nat} (hs : s < 8) : I 62 s = nI (tn (I 62 s)) ∧ tn (I 62 s) ≤ 30 := (h.2.2.1 s hs).1
theorem c_mDoor {G : GG} {dc : Nat} {I : Nat → Nat → Int32} {L : Nat → Nat → Int64} {b : Int32} (hW : Wm dc I) : Cn G yX9_isDoor cX9_isDoor 2 (some .boolean) 0 0 0 [.ref 39, .int b] (Mm dc I L) (Is (some (.int (bI (inR b dc)))) (Mm dc I L)) := by
  have h := c_X9_isDoor (G := G) (dc := dc) (I := I) (L := L) (b := b)
  rw [hW.2.1] at h
  exact h
/-- why a shelf of the model is no row -/
def mk0 (I : Nat → Nat → Int32) (s : Int32) : Nat := if inR s 8 then (if I 60 (tn s) = nI 2 then 2 else if I 60 (tn s) = 0 then 3 else 0) else 1
theorem mk0_lt (I : Nat → Nat → Int32) (s : Int32) : mk0 I s < 8 := by
  unfold mk0
  split
  · split
    · decide
    · split <;> decide
  · decide
theorem mk0_in {I : Nat → Nat → Int32} {s : Int32} (h : mk0 I s = 0) : inR s 8 := by
  unfold mk0 at h
  by_cases q : inR s 8
  · exact q
  · rw [if_neg q] at h
    exact absurd h (by decide)
theorem ix_mul {K N x y : Nat} {a b : Int32} (ha : a = nI x) (hb : b = nI y) (h : K * x + y < N) (hN : N < 2 ^ 31) : ix (nI K * a + b) N (K * x + y) := ⟨by rw [ha, hb, pk_mul, nI_add], h, hN⟩
theorem ix_R8 {i : Int32} {N : Nat} (h : inR i N) (hN : N < 2 ^ 31) : ix i N (tn i) := ix_R hN h

set_option maxRecDepth 4000 in
theorem c_X9_notRow {G : GG} {dc : Nat} {I : Nat → Nat → Int32} {L : Nat → Nat → Int64} {s : Int32} : Cn G yX9_notRow cX9_notRow 2 (some .int) 1 0 0 [.ref 39, .int s] (Mm dc I L) (Is (some (.int (oR (mk0 I s) (nI 0)))) (Mm dc I L)) := by
  refine Cn.of' (by decide) (Nat.le_of_ble_eq_true rfl) rfl ?_
  refine v_ild1 dX9_notRow_0 ?_
  refine v_S1 c_X9_isShelf lk_X9_162 dX9_notRow_1 (by decide) (Nat.le_of_ble_eq_true rfl) ?_
  refine v_ifne_b (tgt := 11) dX9_notRow_4 (by decide) (fun h4 => ?_) (fun h4 => ?_)
  · refine v_ald0 dX9_notRow_11 ?_
    refine v_getP (q := 60) dX9_notRow_12 fl_X9_84 (by first | rfl | exact lay_door (by omega) | exact lay_dt (by omega) | exact lay_da (by omega) | exact lay_sh (by omega) | exact lay_se (by omega)) rfl (by omega) rfl ?_
    refine v_ild1 dX9_notRow_15 ?_
    refine v_iald dX9_notRow_16 (by first | rfl | exact lay_door (by omega) | exact lay_dt (by omega) | exact lay_da (by omega) | exact lay_sh (by omega) | exact lay_se (by omega)) (by omega) (ix_R (by decide) h4) ?_
    refine v_icN (n := 2) dX9_notRow_17 (by decide) ?_
    refine v_icmp_ne (tgt := 26) dX9_notRow_18 (by decide) (fun h18 => ?_) (fun h18 => ?_)
    · refine v_ald0 dX9_notRow_26 ?_
      refine v_getP (q := 60) dX9_notRow_27 fl_X9_84 (by first | rfl | exact lay_door (by omega) | exact lay_dt (by omega) | exact lay_da (by omega) | exact lay_sh (by omega) | exact lay_se (by omega)) rfl (by omega) rfl ?_
      refine v_ild1 dX9_notRow_30 ?_
      refine v_iald dX9_notRow_31 (by first | rfl | exact lay_door (by omega) | exact lay_dt (by omega) | exact lay_da (by omega) | exact lay_sh (by omega) | exact lay_se (by omega)) (by omega) (ix_R (by decide) h4) ?_
      refine v_if_ne (tgt := 40) dX9_notRow_32 (by decide) (fun h32 => ?_) (fun h32 => ?_)
      · refine v_icN (n := 0) dX9_notRow_40 (by decide) ?_
        exact v_retI dX9_notRow_41 trivial (by simp only [mk0, if_pos h4, if_neg h18, if_neg h32]; exact ⟨rfl, rfl⟩)
      · refine v_bipush (v := -3) dX9_notRow_35 (by decide) ?_
        refine v_goto (tgt := 41) dX9_notRow_37 (by decide) ?_
        exact v_retI dX9_notRow_41 trivial (by simp only [mk0, if_pos h4, if_neg h18, if_pos h32]; exact ⟨rfl, rfl⟩)
    · refine v_bipush (v := -2) dX9_notRow_21 (by decide) ?_
      refine v_goto (tgt := 41) dX9_notRow_23 (by decide) ?_
      exact v_retI dX9_notRow_41 trivial (by simp only [mk0, if_pos h4, if_pos h18]; exact ⟨rfl, rfl⟩)
  · refine v_icm1 dX9_notRow_7 ?_
    refine v_goto (tgt := 41) dX9_notRow_8 (by decide) ?_
    exact v_retI dX9_notRow_41 trivial (by simp only [mk0, if_neg h4]; exact ⟨rfl, rfl⟩)

abbrev mEl (L : Nat → Nat → Int64) (s j : Nat) : Int32 := (L 63 (30 * s + j)).toInt32

set_option maxRecDepth 4000 in
theorem c_X9_letter {G : GG} {dc : Nat} {I : Nat → Nat → Int32} {L : Nat → Nat → Int64} {s k : Int32} {p q : Nat} (hs : s = nI p) (hp : p < 8) (hk : k = nI q) (hq : q < 100) (hz : rg (I 62 p) 30) : Cn G yX9_letter cX9_letter 3 (some .int) 0 0 0 [.ref 39, .int s, .int k] (Mm dc I L) (Is (some (.int (if q < tn (I 62 p) then mEl L p q else -1))) (Mm dc I L)) := by
  subst hs
  subst hk
  have hz1 := hz.1
  have hz2 := hz.2
  refine Cn.of' (by decide) (Nat.le_of_ble_eq_true rfl) rfl ?_
  refine v_ild2 dX9_letter_0 ?_
  refine v_ald0 dX9_letter_1 ?_
  refine v_getP (q := 62) dX9_letter_2 fl_X9_90 (by first | rfl | exact lay_door (by omega) | exact lay_dt (by omega) | exact lay_da (by omega) | exact lay_sh (by omega) | exact lay_se (by omega)) rfl (by omega) rfl ?_
  refine v_ild1 dX9_letter_5 ?_
  refine v_iald dX9_letter_6 (by first | rfl | exact lay_door (by omega) | exact lay_dt (by omega) | exact lay_da (by omega) | exact lay_sh (by omega) | exact lay_se (by omega)) (by omega) ⟨rfl, hp, by decide⟩ ?_
  refine v_icmp_ge (tgt := 25) dX9_letter_7 (by decide) (fun h7 => ?_) (fun h7 => ?_)
  · refine v_icm1 dX9_letter_25 ?_
    exact v_retI dX9_letter_26 trivial (by rw [if_neg (by have := (rg_le hz (by decide) (by omega)).mp h7; omega)]; exact ⟨rfl, rfl⟩)
  · refine v_ald0 dX9_letter_10 ?_
    refine v_getP (q := 63) dX9_letter_11 fl_X9_93 (by first | rfl | exact lay_door (by omega) | exact lay_dt (by omega) | exact lay_da (by omega) | exact lay_sh (by omega) | exact lay_se (by omega)) rfl (by omega) rfl ?_
    refine v_bipush (v := nI 30) dX9_letter_14 (by decide) ?_
    refine v_ild1 dX9_letter_16 ?_
    refine v_imul dX9_letter_17 ?_
    refine v_ild2 dX9_letter_18 ?_
    refine v_iadd dX9_letter_19 ?_
    refine v_lald dX9_letter_20 (by first | rfl | exact lay_door (by omega) | exact lay_dt (by omega) | exact lay_da (by omega) | exact lay_sh (by omega) | exact lay_se (by omega)) (by omega) (ix_mul rfl rfl (by have := (rg_lt hz (by decide) (by omega)).mp h7; omega) (by decide)) ?_
    refine v_l2i dX9_letter_21 ?_
    refine v_goto (tgt := 26) dX9_letter_22 (by decide) ?_
    exact v_retI dX9_letter_26 trivial (by rw [if_pos ((rg_lt hz (by decide) (by omega)).mp h7)]; exact ⟨rfl, rfl⟩)

set_option maxRecDepth 4000 in
theorem c_X9_fault {G : GG} {dc : Nat} {I : Nat → Nat → Int32} {L : Nat → Nat → Int64} : Cn G yX9_fault cX9_fault 1 (some .int) 0 0 0 [.ref 39] (Mm dc I L) (Is (some (.int (I 39 21))) (Mm dc I L)) := by
  refine Cn.of' (by decide) (Nat.le_of_ble_eq_true rfl) rfl ?_
  refine v_ald0 dX9_fault_0 ?_
  refine v_getI dX9_fault_1 fl_X9_72 (by first | rfl | exact lay_door (by omega) | exact lay_dt (by omega) | exact lay_da (by omega) | exact lay_sh (by omega) | exact lay_se (by omega)) rfl (by omega) ?_
  exact v_retI dX9_fault_4 trivial ⟨rfl, rfl⟩

set_option maxRecDepth 4000 in
theorem c_X9_isToBeAsked {G : GG} {dc : Nat} {I : Nat → Nat → Int32} {L : Nat → Nat → Int64} {b : Int32} {d : Nat} (hb : b = nI d) (hd : d < 24) : Cn G yX9_isToBeAsked cX9_isToBeAsked 2 (some .boolean) 0 0 0 [.ref 39, .int b] (Mm dc I L) (Is (some (.int (bI (I 45 d = 0 ∨ I 45 d = nI 3 ∨ (I 45 d = nI 1 ∧ ¬ I 52 d = 0))))) (Mm dc I L)) := by
  subst hb
  refine Cn.of' (by decide) (Nat.le_of_ble_eq_true rfl) rfl ?_
  refine v_ald0 dX9_isToBeAsked_0 ?_
  refine v_getP (q := 45) dX9_isToBeAsked_1 fl_X9_25 (by first | rfl | exact lay_door (by omega) | exact lay_dt (by omega) | exact lay_da (by omega) | exact lay_sh (by omega) | exact lay_se (by omega)) rfl (by omega) rfl ?_
  refine v_ild1 dX9_isToBeAsked_4 ?_
  refine v_iald dX9_isToBeAsked_5 (by first | rfl | exact lay_door (by omega) | exact lay_dt (by omega) | exact lay_da (by omega) | exact lay_sh (by omega) | exact lay_se (by omega)) (by omega) ⟨rfl, hd, by decide⟩ ?_
  refine v_if_eq (tgt := 38) dX9_isToBeAsked_6 (by decide) (fun h6 => ?_) (fun h6 => ?_)
  · refine v_icN (n := 1) dX9_isToBeAsked_38 (by decide) ?_
    refine v_goto (tgt := 43) dX9_isToBeAsked_39 (by decide) ?_
    exact v_retI dX9_isToBeAsked_43 (by first | exact Or.inl rfl | exact Or.inr rfl | exact bI_01) (by refine ⟨?_, rfl⟩; rw [bI_t (Or.inl h6)])
  · refine v_ald0 dX9_isToBeAsked_9 ?_
    refine v_getP (q := 45) dX9_isToBeAsked_10 fl_X9_25 (by first | rfl | exact lay_door (by omega) | exact lay_dt (by omega) | exact lay_da (by omega) | exact lay_sh (by omega) | exact lay_se (by omega)) rfl (by omega) rfl ?_
    refine v_ild1 dX9_isToBeAsked_13 ?_
    refine v_iald dX9_isToBeAsked_14 (by first | rfl | exact lay_door (by omega) | exact lay_dt (by omega) | exact lay_da (by omega) | exact lay_sh (by omega) | exact lay_se (by omega)) (by omega) ⟨rfl, hd, by decide⟩ ?_
    refine v_icN (n := 3) dX9_isToBeAsked_15 (by decide) ?_
    refine v_icmp_eq (tgt := 38) dX9_isToBeAsked_16 (by decide) (fun h16 => ?_) (fun h16 => ?_)
    · refine v_icN (n := 1) dX9_isToBeAsked_38 (by decide) ?_
      refine v_goto (tgt := 43) dX9_isToBeAsked_39 (by decide) ?_
      exact v_retI dX9_isToBeAsked_43 (by first | exact Or.inl rfl | exact Or.inr rfl | exact bI_01) (by refine ⟨?_, rfl⟩; rw [bI_t (Or.inr (Or.inl h16))])
    · refine v_ald0 dX9_isToBeAsked_19 ?_
      refine v_getP (q := 45) dX9_isToBeAsked_20 fl_X9_25 (by first | rfl | exact lay_door (by omega) | exact lay_dt (by omega) | exact lay_da (by omega) | exact lay_sh (by omega) | exact lay_se (by omega)) rfl (by omega) rfl ?_
      refine v_ild1 dX9_isToBeAsked_23 ?_
      refine v_iald dX9_isToBeAsked_24 (by first | rfl | exact lay_door (by omega) | exact lay_dt (by omega) | exact lay_da (by omega) | exact lay_sh (by omega) | exact lay_se (by omega)) (by omega) ⟨rfl, hd, by decide⟩ ?_
      refine v_icN (n := 1) dX9_isToBeAsked_25 (by decide) ?_
      refine v_icmp_ne (tgt := 42) dX9_isToBeAsked_26 (by decide) (fun h26 => ?_) (fun h26 => ?_)
      · refine v_icN (n := 0) dX9_isToBeAsked_42 (by decide) ?_
        exact v_retI dX9_isToBeAsked_43 (by first | exact Or.inl rfl | exact Or.inr rfl | exact bI_01) (by refine ⟨?_, rfl⟩; rw [bI_f (fun q => q.elim h6 (fun q => q.elim h16 (fun q => h26 q.1)))])
      · refine v_ald0 dX9_isToBeAsked_29 ?_
        refine v_getP (q := 52) dX9_isToBeAsked_30 fl_X9_46 (by first | rfl | exact lay_door (by omega) | exact lay_dt (by omega) | exact lay_da (by omega) | exact lay_sh (by omega) | exact lay_se (by omega)) rfl (by omega) rfl ?_
        refine v_ild1 dX9_isToBeAsked_33 ?_
        refine v_zald dX9_isToBeAsked_34 (by first | rfl | exact lay_door (by omega) | exact lay_dt (by omega) | exact lay_da (by omega) | exact lay_sh (by omega) | exact lay_se (by omega)) (by omega) ⟨rfl, hd, by decide⟩ ?_
        refine v_if_eq (tgt := 42) dX9_isToBeAsked_35 (by decide) (fun h35 => ?_) (fun h35 => ?_)
        · refine v_icN (n := 0) dX9_isToBeAsked_42 (by decide) ?_
          exact v_retI dX9_isToBeAsked_43 (by first | exact Or.inl rfl | exact Or.inr rfl | exact bI_01) (by refine ⟨?_, rfl⟩; rw [bI_f (fun q => q.elim h6 (fun q => q.elim h16 (fun q => q.2 h35)))])
        · refine v_icN (n := 1) dX9_isToBeAsked_38 (by decide) ?_
          refine v_goto (tgt := 43) dX9_isToBeAsked_39 (by decide) ?_
          exact v_retI dX9_isToBeAsked_43 (by first | exact Or.inl rfl | exact Or.inr rfl | exact bI_01) (by refine ⟨?_, rfl⟩; rw [bI_t (Or.inr (Or.inr ⟨h26, h35⟩))])

set_option maxRecDepth 4000 in
theorem c_X9_isHead {G : GG} {dc : Nat} {I : Nat → Nat → Int32} {L : Nat → Nat → Int64} {b i : Int32} {d : Nat} (hb : b = nI d) (hd : d < 24) : Cn G yX9_isHead cX9_isHead 3 (some .boolean) 0 0 0 [.ref 39, .int b, .int i] (Mm dc I L) (Is (some (.int (bI (¬ i < 0 ∧ ¬ I 46 d ≤ i)))) (Mm dc I L)) := by
  subst hb
  refine Cn.of' (by decide) (Nat.le_of_ble_eq_true rfl) rfl ?_
  refine v_ild2 dX9_isHead_0 ?_
  refine v_if_lt (tgt := 18) dX9_isHead_1 (by decide) (fun h1 => ?_) (fun h1 => ?_)
  · refine v_icN (n := 0) dX9_isHead_18 (by decide) ?_
    exact v_retI dX9_isHead_19 (by first | exact Or.inl rfl | exact Or.inr rfl | exact bI_01) (by refine ⟨?_, rfl⟩; simp [bI, *])
  · refine v_ild2 dX9_isHead_4 ?_
    refine v_ald0 dX9_isHead_5 ?_
    refine v_getP (q := 46) dX9_isHead_6 fl_X9_28 (by first | rfl | exact lay_door (by omega) | exact lay_dt (by omega) | exact lay_da (by omega) | exact lay_sh (by omega) | exact lay_se (by omega)) rfl (by omega) rfl ?_
    refine v_ild1 dX9_isHead_9 ?_
    refine v_iald dX9_isHead_10 (by first | rfl | exact lay_door (by omega) | exact lay_dt (by omega) | exact lay_da (by omega) | exact lay_sh (by omega) | exact lay_se (by omega)) (by omega) ⟨rfl, hd, by decide⟩ ?_
    refine v_icmp_ge (tgt := 18) dX9_isHead_11 (by decide) (fun h11 => ?_) (fun h11 => ?_)
    · refine v_icN (n := 0) dX9_isHead_18 (by decide) ?_
      exact v_retI dX9_isHead_19 (by first | exact Or.inl rfl | exact Or.inr rfl | exact bI_01) (by refine ⟨?_, rfl⟩; simp [bI, *])
    · refine v_icN (n := 1) dX9_isHead_14 (by decide) ?_
      refine v_goto (tgt := 19) dX9_isHead_15 (by decide) ?_
      exact v_retI dX9_isHead_19 (by first | exact Or.inl rfl | exact Or.inr rfl | exact bI_01) (by refine ⟨?_, rfl⟩; simp [bI, *])

set_option maxRecDepth 4000 in
theorem c_X9_holds {G : GG} {dc : Nat} {I : Nat → Nat → Int32} {L : Nat → Nat → Int64} {s : Int32} : Cn G yX9_holds cX9_holds 2 (some .int) 1 0 0 [.ref 39, .int s] (Mm dc I L) (Is (some (.int (if inR s 8 then (if I 60 (tn s) = 0 then -1 else if I 60 (tn s) = nI 2 then I 61 (tn s) else nI 100 + I 61 (tn s)) else -1))) (Mm dc I L)) := by
  refine Cn.of' (by decide) (Nat.le_of_ble_eq_true rfl) rfl ?_
  refine v_ild1 dX9_holds_0 ?_
  refine v_S1 c_X9_isShelf lk_X9_162 dX9_holds_1 (by decide) (Nat.le_of_ble_eq_true rfl) ?_
  refine v_ifeq_b (tgt := 16) dX9_holds_4 (by decide) (fun h4 => ?_) (fun h4 => ?_)
  · refine v_icm1 dX9_holds_16 ?_
    refine v_goto (tgt := 48) dX9_holds_17 (by decide) ?_
    exact v_retI dX9_holds_48 trivial (by simp only [if_neg h4]; exact ⟨rfl, rfl⟩)
  · refine v_ald0 dX9_holds_7 ?_
    refine v_getP (q := 60) dX9_holds_8 fl_X9_84 (by first | rfl | exact lay_door (by omega) | exact lay_dt (by omega) | exact lay_da (by omega) | exact lay_sh (by omega) | exact lay_se (by omega)) rfl (by omega) rfl ?_
    refine v_ild1 dX9_holds_11 ?_
    refine v_iald dX9_holds_12 (by first | rfl | exact lay_door (by omega) | exact lay_dt (by omega) | exact lay_da (by omega) | exact lay_sh (by omega) | exact lay_se (by omega)) (by omega) (ix_R (by decide) h4) ?_
    refine v_if_ne (tgt := 20) dX9_holds_13 (by decide) (fun h13 => ?_) (fun h13 => ?_)
    · refine v_ald0 dX9_holds_20 ?_
      refine v_getP (q := 60) dX9_holds_21 fl_X9_84 (by first | rfl | exact lay_door (by omega) | exact lay_dt (by omega) | exact lay_da (by omega) | exact lay_sh (by omega) | exact lay_se (by omega)) rfl (by omega) rfl ?_
      refine v_ild1 dX9_holds_24 ?_
      refine v_iald dX9_holds_25 (by first | rfl | exact lay_door (by omega) | exact lay_dt (by omega) | exact lay_da (by omega) | exact lay_sh (by omega) | exact lay_se (by omega)) (by omega) (ix_R (by decide) h4) ?_
      refine v_icN (n := 2) dX9_holds_26 (by decide) ?_
      refine v_icmp_ne (tgt := 39) dX9_holds_27 (by decide) (fun h27 => ?_) (fun h27 => ?_)
      · refine v_bipush (v := nI 100) dX9_holds_39 (by decide) ?_
        refine v_ald0 dX9_holds_41 ?_
        refine v_getP (q := 61) dX9_holds_42 fl_X9_87 (by first | rfl | exact lay_door (by omega) | exact lay_dt (by omega) | exact lay_da (by omega) | exact lay_sh (by omega) | exact lay_se (by omega)) rfl (by omega) rfl ?_
        refine v_ild1 dX9_holds_45 ?_
        refine v_iald dX9_holds_46 (by first | rfl | exact lay_door (by omega) | exact lay_dt (by omega) | exact lay_da (by omega) | exact lay_sh (by omega) | exact lay_se (by omega)) (by omega) (ix_R (by decide) h4) ?_
        refine v_iadd dX9_holds_47 ?_
        exact v_retI dX9_holds_48 trivial (by simp only [if_pos h4, if_neg h13, if_neg h27]; exact ⟨rfl, rfl⟩)
      · refine v_ald0 dX9_holds_30 ?_
        refine v_getP (q := 61) dX9_holds_31 fl_X9_87 (by first | rfl | exact lay_door (by omega) | exact lay_dt (by omega) | exact lay_da (by omega) | exact lay_sh (by omega) | exact lay_se (by omega)) rfl (by omega) rfl ?_
        refine v_ild1 dX9_holds_34 ?_
        refine v_iald dX9_holds_35 (by first | rfl | exact lay_door (by omega) | exact lay_dt (by omega) | exact lay_da (by omega) | exact lay_sh (by omega) | exact lay_se (by omega)) (by omega) (ix_R (by decide) h4) ?_
        refine v_goto (tgt := 48) dX9_holds_36 (by decide) ?_
        exact v_retI dX9_holds_48 trivial (by simp only [if_pos h4, if_neg h13, if_pos h27]; exact ⟨rfl, rfl⟩)
    · refine v_icm1 dX9_holds_16 ?_
      refine v_goto (tgt := 48) dX9_holds_17 (by decide) ?_
      exact v_retI dX9_holds_48 trivial (by simp only [if_pos h4, if_pos h13]; exact ⟨rfl, rfl⟩)
