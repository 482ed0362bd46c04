abbrev okL (p : Nat) (x : Int32) : Prop := (p % 2 = 0 ∧ x = kpc (p / 2)) ∨ (p % 2 = 1 ∧ ¬ x < (if p = 5 then nI 50 else nI 49) ∧ ¬ nI 57 < x)
theorem odd_of {p : Nat} (h : ¬ nI (p % 2) = 0) : p % 2 = 1 := by
  have h9 : ¬ p % 2 = 0 := fun q => h (by rw [q]; rfl)
  omega
theorem nI_ne {a b : Nat} (h : a ≠ b) (ha : a < 2 ^ 31) (hb : b < 2 ^ 31) : ¬ nI a = nI b := fun q => h ((nI_eq ha hb).mp q)

set_option maxRecDepth 4000 in
theorem c_X3_mayStand {G : GG} {μ : Mem} {p : Nat} {x : Int32} (hp : p < 6) : Cn G yX3_mayStand cX3_mayStand 2 (some .boolean) 4 0 0 [.int (nI p), .int x] μ (Is (some (.int (bI (okL p x)))) μ) := by
  refine Cn.of' (by decide) (Nat.le_of_ble_eq_true rfl) rfl ?_
  refine v_ild0 dX3_mayStand_0 ?_
  refine v_icN (n := 2) dX3_mayStand_1 (by decide) ?_
  refine v_irem dX3_mayStand_2 (by decide) ?_
  rw [pk_rem (by omega) (by decide) (by decide)]
  refine v_if_ne (tgt := 24) dX3_mayStand_3 (by decide) (fun h3 => ?_) (fun h3 => ?_)
  · refine v_ild1 dX3_mayStand_24 ?_
    refine v_ild0 dX3_mayStand_25 ?_
    refine v_icN (n := 5) dX3_mayStand_26 (by decide) ?_
    refine v_icmp_ne (tgt := 35) dX3_mayStand_27 (by decide) (fun h27 => ?_) (fun h27 => ?_)
    · refine v_bipush (v := nI 49) dX3_mayStand_35 (by decide) ?_
      refine v_icmp_lt (tgt := 50) dX3_mayStand_37 (by decide) (fun h37 => ?_) (fun h37 => ?_)
      · refine v_icN (n := 0) dX3_mayStand_50 (by decide) ?_
        exact v_retI dX3_mayStand_51 (by first | exact Or.inl rfl | exact Or.inr rfl | exact bI_01) (by have e3 := odd_of h3; refine ⟨?_, rfl⟩; by_cases e5 : p = 5; (subst e5; simp_all [bI, okL]); (have e6 : ¬ nI p = nI 5 := nI_ne e5 (by omega) (by decide); simp_all [bI, okL]))
      · refine v_ild1 dX3_mayStand_40 ?_
        refine v_bipush (v := nI 57) dX3_mayStand_41 (by decide) ?_
        refine v_icmp_gt (tgt := 50) dX3_mayStand_43 (by decide) (fun h43 => ?_) (fun h43 => ?_)
        · refine v_icN (n := 0) dX3_mayStand_50 (by decide) ?_
          exact v_retI dX3_mayStand_51 (by first | exact Or.inl rfl | exact Or.inr rfl | exact bI_01) (by have e3 := odd_of h3; refine ⟨?_, rfl⟩; by_cases e5 : p = 5; (subst e5; simp_all [bI, okL]); (have e6 : ¬ nI p = nI 5 := nI_ne e5 (by omega) (by decide); simp_all [bI, okL]))
        · refine v_icN (n := 1) dX3_mayStand_46 (by decide) ?_
          refine v_goto (tgt := 51) dX3_mayStand_47 (by decide) ?_
          exact v_retI dX3_mayStand_51 (by first | exact Or.inl rfl | exact Or.inr rfl | exact bI_01) (by have e3 := odd_of h3; refine ⟨?_, rfl⟩; by_cases e5 : p = 5; (subst e5; simp_all [bI, okL]); (have e6 : ¬ nI p = nI 5 := nI_ne e5 (by omega) (by decide); simp_all [bI, okL]))
    · refine v_bipush (v := nI 50) dX3_mayStand_30 (by decide) ?_
      refine v_goto (tgt := 37) dX3_mayStand_32 (by decide) ?_
      refine v_icmp_lt (tgt := 50) dX3_mayStand_37 (by decide) (fun h37 => ?_) (fun h37 => ?_)
      · refine v_icN (n := 0) dX3_mayStand_50 (by decide) ?_
        exact v_retI dX3_mayStand_51 (by first | exact Or.inl rfl | exact Or.inr rfl | exact bI_01) (by have e3 := odd_of h3; refine ⟨?_, rfl⟩; by_cases e5 : p = 5; (subst e5; simp_all [bI, okL]); (have e6 : ¬ nI p = nI 5 := nI_ne e5 (by omega) (by decide); simp_all [bI, okL]))
      · refine v_ild1 dX3_mayStand_40 ?_
        refine v_bipush (v := nI 57) dX3_mayStand_41 (by decide) ?_
        refine v_icmp_gt (tgt := 50) dX3_mayStand_43 (by decide) (fun h43 => ?_) (fun h43 => ?_)
        · refine v_icN (n := 0) dX3_mayStand_50 (by decide) ?_
          exact v_retI dX3_mayStand_51 (by first | exact Or.inl rfl | exact Or.inr rfl | exact bI_01) (by have e3 := odd_of h3; refine ⟨?_, rfl⟩; by_cases e5 : p = 5; (subst e5; simp_all [bI, okL]); (have e6 : ¬ nI p = nI 5 := nI_ne e5 (by omega) (by decide); simp_all [bI, okL]))
        · refine v_icN (n := 1) dX3_mayStand_46 (by decide) ?_
          refine v_goto (tgt := 51) dX3_mayStand_47 (by decide) ?_
          exact v_retI dX3_mayStand_51 (by first | exact Or.inl rfl | exact Or.inr rfl | exact bI_01) (by have e3 := odd_of h3; refine ⟨?_, rfl⟩; by_cases e5 : p = 5; (subst e5; simp_all [bI, okL]); (have e6 : ¬ nI p = nI 5 := nI_ne e5 (by omega) (by decide); simp_all [bI, okL]))
  · refine v_ild1 dX3_mayStand_6 ?_
    refine v_ldcK rfl rfl dX3_mayStand_7 ?_
    refine v_ild0 dX3_mayStand_9 ?_
    refine v_icN (n := 2) dX3_mayStand_10 (by decide) ?_
    refine v_idiv dX3_mayStand_11 (by decide) ?_
    rw [pk_div (by omega) (by decide) (by decide)]
    refine V.invX (av := [.int (nI (p / 2))]) (c_J0_charAt (by omega)) lx_charAt rfl dX3_mayStand_12 (by decide) (Nat.le_of_ble_eq_true rfl) rfl (fun r μ₁ h => ?_)
    obtain ⟨rfl, rfl⟩ := h
    refine v_icmp_ne (tgt := 22) dX3_mayStand_15 (by decide) (fun h15 => ?_) (fun h15 => ?_)
    · refine v_icN (n := 0) dX3_mayStand_22 (by decide) ?_
      exact v_retI dX3_mayStand_23 (by first | exact Or.inl rfl | exact Or.inr rfl | exact bI_01) (by have e3 : p % 2 = 0 := (nI_eq (a := p % 2) (b := 0) (by omega) (by decide)).mp h3; refine ⟨?_, rfl⟩; simp [bI, okL, e3, h15])
    · refine v_icN (n := 1) dX3_mayStand_18 (by decide) ?_
      refine v_goto (tgt := 23) dX3_mayStand_19 (by decide) ?_
      exact v_retI dX3_mayStand_23 (by first | exact Or.inl rfl | exact Or.inr rfl | exact bI_01) (by have e3 : p % 2 = 0 := (nI_eq (a := p % 2) (b := 0) (by omega) (by decide)).mp h3; refine ⟨?_, rfl⟩; simp [bI, okL, e3, h15])

/-- an element of a shelf's row as an int -/
abbrev elI (L : Nat → Nat → Int64) (s j : Nat) : Int32 := (L (23 + 2 * s + 1) j).toInt32
def pW (f : Nat → Int32) (z j : Nat) : Bool := decide (z ≤ j ∨ ¬ okL j (f j))
/-- the fault of a law of z letters f; -1: none -/
def flt (f : Nat → Int32) (z : Nat) : Int32 := if fzf (pW f z) 0 6 < 6 then nI (fzf (pW f z) 0 6) else if 6 < z then nI 6 else -1

set_option maxRecDepth 4000 in
theorem lp_fwp {G : GG} {dc : Nat} {I : Nat → Nat → Int32} {L : Nat → Nat → Int64} {s z : Nat} (hs : s < 8) (hz : I (23 + 2 * s) 2 = nI z) (hz2 : z ≤ 30) (k : Nat) : ∀ i, i + k = 6 → V G yX3_firstWrongPlace cX3_firstWrongPlace 2 (some .int) 5 0 0 2 [.ref (23 + 2 * s), .int (nI i)] [] (Mm dc I L) (Is (some (.int (if fzf (pW (elI L s) z) i k < 6 then nI (fzf (pW (elI L s) z) i k) else if 6 < z then nI 6 else -1))) (Mm dc I L)) := by
  induction k with
  | zero =>
    intro i hi
    refine v_ild1 dX3_firstWrongPlace_2 ?_
    refine v_bipush (v := nI 6) dX3_firstWrongPlace_3 (by decide) ?_
    refine v_icmp_ge (tgt := 36) dX3_firstWrongPlace_5 (by decide) (fun h5 => ?_) (fun h5 => absurd (nI_le (by omega) (by omega)) h5)
    refine v_ald0 dX3_firstWrongPlace_36 ?_
    refine v_getI dX3_firstWrongPlace_37 fl_X3_34 (by first | rfl | exact lay_door (by omega) | exact lay_dt (by omega) | exact lay_da (by omega) | exact lay_sh (by omega) | exact lay_se (by omega)) rfl (by omega) ?_
    refine v_bipush (v := nI 6) dX3_firstWrongPlace_40 (by decide) ?_
    refine v_icmp_le (tgt := 50) dX3_firstWrongPlace_42 (by decide) (fun h42 => ?_) (fun h42 => ?_)
    · refine v_icm1 dX3_firstWrongPlace_50 ?_
      exact v_retI dX3_firstWrongPlace_51 trivial (by rw [hz] at h42; rw [fzf, if_neg (by omega)]; first | (rw [if_pos (Nat.lt_of_not_le fun q => h42 (nI_le q (by omega)))]; exact ⟨rfl, rfl⟩) | (rw [if_neg (fun q => nI_ge q (by omega) h42)]; exact ⟨rfl, rfl⟩))
    · refine v_bipush (v := nI 6) dX3_firstWrongPlace_45 (by decide) ?_
      refine v_goto (tgt := 51) dX3_firstWrongPlace_47 (by decide) ?_
      exact v_retI dX3_firstWrongPlace_51 trivial (by rw [hz] at h42; rw [fzf, if_neg (by omega)]; first | (rw [if_pos (Nat.lt_of_not_le fun q => h42 (nI_le q (by omega)))]; exact ⟨rfl, rfl⟩) | (rw [if_neg (fun q => nI_ge q (by omega) h42)]; exact ⟨rfl, rfl⟩))
  | succ k ih =>
    intro i hi
    refine v_ild1 dX3_firstWrongPlace_2 ?_
    refine v_bipush (v := nI 6) dX3_firstWrongPlace_3 (by decide) ?_
    refine v_icmp_ge (tgt := 36) dX3_firstWrongPlace_5 (by decide) (fun h5 => absurd h5 (nI_ge (by omega) (by omega))) (fun h5 => ?_)
    refine v_ild1 dX3_firstWrongPlace_8 ?_
    refine v_ald0 dX3_firstWrongPlace_9 ?_
    refine v_getI dX3_firstWrongPlace_10 fl_X3_34 (by first | rfl | exact lay_door (by omega) | exact lay_dt (by omega) | exact lay_da (by omega) | exact lay_sh (by omega) | exact lay_se (by omega)) rfl (by omega) ?_
    refine v_icmp_ge (tgt := 28) dX3_firstWrongPlace_13 (by decide) (fun h13 => ?_) (fun h13 => ?_)
    · refine v_ild1 dX3_firstWrongPlace_28 ?_
      exact v_retI dX3_firstWrongPlace_29 trivial (by first | (have h9 : z ≤ i := Nat.le_of_not_lt fun q => nI_ge q (by omega) (by rw [← hz]; exact h13); rw [show fzf (pW (elI L s) z) i (k + 1) = i by simp only [fzf, pW, decide_eq_true (Or.inl h9 : z ≤ i ∨ ¬ okL i (elI L s i)), if_true], if_pos (by omega)]; exact ⟨rfl, rfl⟩) | (rw [show fzf (pW (elI L s) z) i (k + 1) = i by simp only [fzf, pW, decide_eq_true (Or.inr h25 : z ≤ i ∨ ¬ okL i (elI L s i)), if_true], if_pos (by omega)]; exact ⟨rfl, rfl⟩))
    · refine v_ild1 dX3_firstWrongPlace_16 ?_
      refine v_ald0 dX3_firstWrongPlace_17 ?_
      refine v_ild1 dX3_firstWrongPlace_18 ?_
      refine v_V1 (c_X4_elementAsInt hs hz hz2 ⟨nI_pos (by omega), by rw [hz]; exact fun q => h13 (by rw [hz]; exact q)⟩) lk_X3_28 dX3_firstWrongPlace_19 (by decide) (Nat.le_of_ble_eq_true rfl) (by first | rfl | exact lay_door (by omega) | exact lay_dt (by omega) | exact lay_da (by omega) | exact lay_sh (by omega) | exact lay_se (by omega)) (show _ < 78 + 3 * _ by omega) ?_
      rw [tn_nI (by omega)]
      refine v_S2 (c_X3_mayStand (by omega)) lk_X3_37 dX3_firstWrongPlace_22 (by decide) (Nat.le_of_ble_eq_true rfl) ?_
      refine v_ifne_b (tgt := 30) dX3_firstWrongPlace_25 (by decide) (fun h25 => ?_) (fun h25 => ?_)
      · refine v_inc1 dX3_firstWrongPlace_30 rfl ?_
        refine v_goto (tgt := 2) dX3_firstWrongPlace_33 (by decide) ?_
        rw [nI_1 i]
        have h9 : ¬ (z ≤ i ∨ ¬ okL i (elI L s i)) := fun q => q.elim (fun q => h13 (by rw [hz]; exact nI_le q (by omega))) (fun q => q h25)
        rw [show fzf (pW (elI L s) z) i (k + 1) = fzf (pW (elI L s) z) (i + 1) k by simp only [fzf, pW, decide_eq_false h9]; rfl]
        exact ih (i + 1) (by omega)
      · refine v_ild1 dX3_firstWrongPlace_28 ?_
        exact v_retI dX3_firstWrongPlace_29 trivial (by first | (have h9 : z ≤ i := Nat.le_of_not_lt fun q => nI_ge q (by omega) (by rw [← hz]; exact h13); rw [show fzf (pW (elI L s) z) i (k + 1) = i by simp only [fzf, pW, decide_eq_true (Or.inl h9 : z ≤ i ∨ ¬ okL i (elI L s i)), if_true], if_pos (by omega)]; exact ⟨rfl, rfl⟩) | (rw [show fzf (pW (elI L s) z) i (k + 1) = i by simp only [fzf, pW, decide_eq_true (Or.inr h25 : z ≤ i ∨ ¬ okL i (elI L s i)), if_true], if_pos (by omega)]; exact ⟨rfl, rfl⟩))

set_option maxRecDepth 4000 in
theorem c_X3_firstWrongPlace {G : GG} {dc : Nat} {I : Nat → Nat → Int32} {L : Nat → Nat → Int64} {s z : Nat} (hs : s < 8) (hz : I (23 + 2 * s) 2 = nI z) (hz2 : z ≤ 30) : Cn G yX3_firstWrongPlace cX3_firstWrongPlace 2 (some .int) 5 0 0 [.ref (23 + 2 * s)] (Mm dc I L) (Is (some (.int (flt (elI L s) z))) (Mm dc I L)) := by
  refine Cn.of' (by decide) (Nat.le_of_ble_eq_true rfl) rfl ?_
  refine v_icN (n := 0) dX3_firstWrongPlace_0 (by decide) ?_
  refine v_ist1 dX3_firstWrongPlace_1 rfl ?_
  exact lp_fwp hs hz hz2 6 0 (by omega)

theorem fzf_end {p : Nat → Bool} : ∀ k i, fzf p i k = i + k → ∀ j, i ≤ j → j < i + k → p j = false
  | 0, i, _, j, h1, h2 => by omega
  | k + 1, i, h, j, h1, h2 => by
    cases hp : p i with
    | true => simp only [fzf, hp, if_true] at h; omega
    | false =>
      simp only [fzf, hp] at h
      by_cases hj : j = i
      · rw [hj]; exact hp
      · exact fzf_end k (i + 1) (by simpa [Nat.add_assoc, Nat.add_comm 1 k] using h) j (by omega) (by omega)
theorem flt_m1 {f : Nat → Int32} {z : Nat} (h : flt f z = -1) : z = 6 ∧ ∀ j, j < 6 → okL j (f j) := by
  unfold flt at h
  split at h
  · rename_i q
    exact absurd h (fun e => by
      have h1 := nI_toInt (n := fzf (pW f z) 0 6) (by omega)
      rw [e] at h1
      have : (-1 : Int32).toInt = -1 := by decide
      omega)
  · rename_i q
    split at h
    · exact absurd h (by decide)
    · rename_i q2
      have h1 := fzf_le (pW f z) 6 0
      have h2 := fzf_end (p := pW f z) 6 0 (by omega)
      have h3 : ∀ j, j < 6 → ¬ (z ≤ j ∨ ¬ okL j (f j)) := fun j hj => of_decide_eq_false (h2 j (by omega) (by omega))
      refine ⟨?_, fun j hj => Classical.byContradiction fun w => h3 j hj (Or.inr w)⟩
      have := h3 5 (by omega)
      have h5 : ¬ z ≤ 5 := fun w => this (Or.inl w)
      omega
/-- a law is read -/
def lwI (I : Nat → Nat → Int32) (f : Nat → Int32) (z : Nat) : Nat → Nat → Int32 :=
  let J := u2 I 4 3 (flt f z)
  if flt f z = -1 then u2 (u2 (u2 J 4 0 (f 1 - nI 48)) 4 1 (f 3 - nI 48)) 4 2 (f 5 - nI 48) else J

set_option maxRecDepth 4000 in
theorem c_X3_read {G : GG} {dc : Nat} {I : Nat → Nat → Int32} {L : Nat → Nat → Int64} {s z : Nat} (hs : s < 8) (hz : I (23 + 2 * s) 2 = nI z) (hz2 : z ≤ 30) : Cn G yX3_read cX3_read 2 (some .boolean) 6 0 0 [.ref 4, .ref (23 + 2 * s)] (Mm dc I L) (Is (some (.int (bI (flt (elI L s) z = -1)))) (Mm dc (lwI I (elI L s) z) L)) := by
  refine Cn.of' (by decide) (Nat.le_of_ble_eq_true rfl) rfl ?_
  refine v_ald0 dX3_read_0 ?_
  refine v_ald1 dX3_read_1 ?_
  refine v_S1 (c_X3_firstWrongPlace hs hz hz2) lk_X3_24 dX3_read_2 (by decide) (Nat.le_of_ble_eq_true rfl) ?_
  refine v_putI dX3_read_5 fl_X3_21 ft_3_3 (by first | rfl | exact lay_door (by omega) | exact lay_dt (by omega) | exact lay_da (by omega) | exact lay_sh (by omega) | exact lay_se (by omega)) rfl (by omega) ?_
  refine v_ald0 dX3_read_8 ?_
  refine v_getI dX3_read_9 fl_X3_21 (by first | rfl | exact lay_door (by omega) | exact lay_dt (by omega) | exact lay_da (by omega) | exact lay_sh (by omega) | exact lay_se (by omega)) rfl (by omega) ?_
  refine v_icm1 dX3_read_12 ?_
  refine v_icmp_eq (tgt := 18) dX3_read_13 (by decide) (fun h13 => ?_) (fun h13 => ?_)
  · rw [u2_s] at h13
    have e13 : flt (elI L s) z = -1 := h13
    refine v_ald0 dX3_read_18 ?_
    refine v_ald1 dX3_read_19 ?_
    refine v_icN (n := 1) dX3_read_20 (by decide) ?_
    refine v_V1 (c_X4_elementAsInt hs (z := z) (by first | (rw [u2_a _ _ _ _ (by omega)]; exact hz) | (rw [u2_a _ _ _ _ (by omega), u2_a _ _ _ _ (by omega)]; exact hz) | (rw [u2_a _ _ _ _ (by omega), u2_a _ _ _ _ (by omega), u2_a _ _ _ _ (by omega)]; exact hz)) hz2 ⟨nI_pos (by decide), by first | (rw [u2_a _ _ _ _ (by omega), hz, (flt_m1 e13).1]; decide) | (rw [u2_a _ _ _ _ (by omega), u2_a _ _ _ _ (by omega), hz, (flt_m1 e13).1]; decide) | (rw [u2_a _ _ _ _ (by omega), u2_a _ _ _ _ (by omega), u2_a _ _ _ _ (by omega), hz, (flt_m1 e13).1]; decide)⟩) lk_X3_28 dX3_read_21 (by decide) (Nat.le_of_ble_eq_true rfl) (by first | rfl | exact lay_door (by omega) | exact lay_dt (by omega) | exact lay_da (by omega) | exact lay_sh (by omega) | exact lay_se (by omega)) (show _ < 78 + 3 * _ by omega) ?_
    refine v_bipush (v := nI 48) dX3_read_24 (by decide) ?_
    refine v_isub dX3_read_26 ?_
    refine v_putI dX3_read_27 fl_X3_9 ft_3_0 (by first | rfl | exact lay_door (by omega) | exact lay_dt (by omega) | exact lay_da (by omega) | exact lay_sh (by omega) | exact lay_se (by omega)) rfl (by omega) ?_
    refine v_ald0 dX3_read_30 ?_
    refine v_ald1 dX3_read_31 ?_
    refine v_icN (n := 3) dX3_read_32 (by decide) ?_
    refine v_V1 (c_X4_elementAsInt hs (z := z) (by first | (rw [u2_a _ _ _ _ (by omega)]; exact hz) | (rw [u2_a _ _ _ _ (by omega), u2_a _ _ _ _ (by omega)]; exact hz) | (rw [u2_a _ _ _ _ (by omega), u2_a _ _ _ _ (by omega), u2_a _ _ _ _ (by omega)]; exact hz)) hz2 ⟨nI_pos (by decide), by first | (rw [u2_a _ _ _ _ (by omega), hz, (flt_m1 e13).1]; decide) | (rw [u2_a _ _ _ _ (by omega), u2_a _ _ _ _ (by omega), hz, (flt_m1 e13).1]; decide) | (rw [u2_a _ _ _ _ (by omega), u2_a _ _ _ _ (by omega), u2_a _ _ _ _ (by omega), hz, (flt_m1 e13).1]; decide)⟩) lk_X3_28 dX3_read_33 (by decide) (Nat.le_of_ble_eq_true rfl) (by first | rfl | exact lay_door (by omega) | exact lay_dt (by omega) | exact lay_da (by omega) | exact lay_sh (by omega) | exact lay_se (by omega)) (show _ < 78 + 3 * _ by omega) ?_
    refine v_bipush (v := nI 48) dX3_read_36 (by decide) ?_
    refine v_isub dX3_read_38 ?_
    refine v_putI dX3_read_39 fl_X3_15 ft_3_1 (by first | rfl | exact lay_door (by omega) | exact lay_dt (by omega) | exact lay_da (by omega) | exact lay_sh (by omega) | exact lay_se (by omega)) rfl (by omega) ?_
    refine v_ald0 dX3_read_42 ?_
    refine v_ald1 dX3_read_43 ?_
    refine v_icN (n := 5) dX3_read_44 (by decide) ?_
    refine v_V1 (c_X4_elementAsInt hs (z := z) (by first | (rw [u2_a _ _ _ _ (by omega)]; exact hz) | (rw [u2_a _ _ _ _ (by omega), u2_a _ _ _ _ (by omega)]; exact hz) | (rw [u2_a _ _ _ _ (by omega), u2_a _ _ _ _ (by omega), u2_a _ _ _ _ (by omega)]; exact hz)) hz2 ⟨nI_pos (by decide), by first | (rw [u2_a _ _ _ _ (by omega), hz, (flt_m1 e13).1]; decide) | (rw [u2_a _ _ _ _ (by omega), u2_a _ _ _ _ (by omega), hz, (flt_m1 e13).1]; decide) | (rw [u2_a _ _ _ _ (by omega), u2_a _ _ _ _ (by omega), u2_a _ _ _ _ (by omega), hz, (flt_m1 e13).1]; decide)⟩) lk_X3_28 dX3_read_45 (by decide) (Nat.le_of_ble_eq_true rfl) (by first | rfl | exact lay_door (by omega) | exact lay_dt (by omega) | exact lay_da (by omega) | exact lay_sh (by omega) | exact lay_se (by omega)) (show _ < 78 + 3 * _ by omega) ?_
    refine v_bipush (v := nI 48) dX3_read_48 (by decide) ?_
    refine v_isub dX3_read_50 ?_
    refine v_putI dX3_read_51 fl_X3_18 ft_3_2 (by first | rfl | exact lay_door (by omega) | exact lay_dt (by omega) | exact lay_da (by omega) | exact lay_sh (by omega) | exact lay_se (by omega)) rfl (by omega) ?_
    refine v_icN (n := 1) dX3_read_54 (by decide) ?_
    exact v_retI dX3_read_55 (by first | exact Or.inl rfl | exact Or.inr rfl | exact bI_01) (by first | (rw [u2_s] at h13; rw [bI_f h13, lwI]; simp only [if_neg h13]; exact ⟨rfl, rfl⟩) | (rw [bI_t e13, lwI]; simp only [if_pos e13]; exact ⟨rfl, rfl⟩))
  · refine v_icN (n := 0) dX3_read_16 (by decide) ?_
    exact v_retI dX3_read_17 (by first | exact Or.inl rfl | exact Or.inr rfl | exact bI_01) (by first | (rw [u2_s] at h13; rw [bI_f h13, lwI]; simp only [if_neg h13]; exact ⟨rfl, rfl⟩) | (rw [bI_t e13, lwI]; simp only [if_pos e13]; exact ⟨rfl, rfl⟩))
