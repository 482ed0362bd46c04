theorem th_f (I : Nat → Nat → Int32) (d e h : Nat) (w : Int32) {f j : Nat} (hj : j ≠ 6 ∧ j ≠ 7 ∧ j ≠ 8 ∧ j ≠ 9 ∧ j ≠ 11 ∧ j ≠ 12) : thI I d e h w (78 + 3 * f) j = I (78 + 3 * f) j := by
  unfold thI
  rw [u2_k _ _ _ _ hj.2.2.2.2.1, u2_k _ _ _ _ hj.2.2.2.2.2]
  unfold pm
  rw [if_neg (fun q => hj.2.2.1 q.2), if_neg (fun q => by omega)]
  unfold sR
  rw [u2_k _ _ _ _ hj.2.2.2.1, u2_k _ _ _ _ hj.2.2.1, u2_k _ _ _ _ hj.2.1, u2_k _ _ _ _ hj.1]
theorem th_o (I : Nat → Nat → Int32) (d e h : Nat) (w : Int32) {x : Nat} (j : Nat) (h1 : x ≠ 78 + 3 * d) (h2 : x ≠ 78 + 3 * d + 2) (h3 : x ≠ 78 + 3 * e) : thI I d e h w x j = I x j := by
  unfold thI
  rw [u2_a _ _ _ _ h3, u2_a _ _ _ _ h1, pm_o _ _ _ _ h1 h2, sR_o _ _ _ _ h1]
theorem th_8 (I : Nat → Nat → Int32) (d e h : Nat) (w : Int32) : thI I d e h w (78 + 3 * d) 8 = nI (ct (pS (I (78 + 3 * e) 9)) h) := by
  unfold thI
  rw [u2_k _ _ _ _ (by decide), u2_k _ _ _ _ (by decide), pm_h]
theorem th_8o (I : Nat → Nat → Int32) (d e h : Nat) (w : Int32) {f : Nat} (hf : f ≠ d) : thI I d e h w (78 + 3 * f) 8 = I (78 + 3 * f) 8 := by
  unfold thI
  rw [u2_k _ _ _ _ (by decide), u2_k _ _ _ _ (by decide), pm_o _ _ _ _ (by omega) (by omega), sR_o _ _ _ _ (by omega)]
theorem rg_nI {n N : Nat} (h : n ≤ N) (hN : N < 2 ^ 31) : rg (nI n) N := ⟨by rw [tn_nI (by omega)], by rw [tn_nI (by omega)]; exact h⟩
theorem Wx_th {dc : Nat} {I : Nat → Nat → Int32} (hW : Wx dc I) {d e h : Nat} (w : Int32) (h12 : h ≤ 12) (he : e < dc) (hd : d < dc) : Wx dc (thI I d e h w) := by
  obtain ⟨h1, h2, h3, h4⟩ := hW
  refine ⟨h1, ?_, fun s hs => ?_, fun f hf => ?_⟩
  · rw [th_o _ _ _ _ _ _ (by omega) (by omega) (by omega)]; exact h2
  · rw [th_o _ _ _ _ _ _ (by omega) (by omega) (by omega)]; exact h3 s hs
  · obtain ⟨q0, q1, q5, q8⟩ := h4 f hf
    rw [th_f _ _ _ _ _ (by decide), th_f _ _ _ _ _ (by decide), th_f _ _ _ _ _ (by decide)]
    refine ⟨q0, q1, q5, ?_⟩
    by_cases hfd : f = d
    · rw [hfd, th_8]
      exact rg_nI (by have := ct_le (pS (I (78 + 3 * e) 9)) h; omega) (by decide)
    · rw [th_8o _ _ _ _ _ hfd]; exact q8
theorem Wx_fd {dc : Nat} {I : Nat → Nat → Int32} (hW : Wx dc I) {d : Nat} (hd : d < dc) : Wx dc (fdI dc I d) := by
  unfold fdI
  cases hf : fdb I d dc with
  | none => exact hW
  | some e =>
    have he := (fdb_s hf).1
    exact Wx_th hW _ (hW.2.2.2 e he).2.2.2.2 he hd
theorem Wx_u {dc : Nat} {I : Nat → Nat → Int32} (hW : Wx dc I) {a k : Nat} {v : Int32} (h1 : a ≠ 0 ∨ k ≠ 7) (h2 : a < 23) : Wx dc (u2 I a k v) := by
  obtain ⟨q1, q2, q3, q4⟩ := hW
  refine ⟨q1, ?_, fun s hs => ?_, fun f hf => ?_⟩
  · rw [show u2 I a k v 0 7 = I 0 7 from if_neg (fun q => by omega)]; exact q2
  · rw [u2_a _ _ _ _ (by omega)]; exact q3 s hs
  · rw [u2_a _ _ _ _ (by omega), u2_a _ _ _ _ (by omega), u2_a _ _ _ _ (by omega), u2_a _ _ _ _ (by omega)]
    exact q4 f hf
/-- the doors below n are filled: the memory, how many -/
def flM (dc : Nat) (I : Nat → Nat → Int32) : Nat → Nat → Nat → Int32
  | 0 => I
  | d + 1 => if flM dc I d (78 + 3 * d) 6 = 0 then fdI dc (flM dc I d) d else flM dc I d
def pFl (dc : Nat) (I : Nat → Nat → Int32) (d : Nat) : Bool := decide (flM dc I d (78 + 3 * d) 6 = 0 ∧ (fdb (flM dc I d) d dc).isSome = true)
theorem Wx_fl {dc : Nat} {I : Nat → Nat → Int32} (hW : Wx dc I) : ∀ d, d ≤ dc → Wx dc (flM dc I d)
  | 0, _ => hW
  | d + 1, h => by
    have ih := Wx_fl hW d (by omega)
    simp only [flM]
    split
    · exact Wx_fd ih (by omega)
    · exact ih
theorem flM_y {dc : Nat} {I : Nat → Nat → Int32} {d : Nat} (h : flM dc I d (78 + 3 * d) 6 = 0) : flM dc I (d + 1) = fdI dc (flM dc I d) d := by simp only [flM]; exact if_pos h
theorem flM_n {dc : Nat} {I : Nat → Nat → Int32} {d : Nat} (h : ¬ flM dc I d (78 + 3 * d) 6 = 0) : flM dc I (d + 1) = flM dc I d := by simp only [flM]; exact if_neg h
theorem fdI_n {dc : Nat} {I : Nat → Nat → Int32} {d : Nat} (h : ¬ (fdb I d dc).isSome = true) : fdI dc I d = I := by
  unfold fdI
  cases hf : fdb I d dc with
  | none => rfl
  | some e => rw [hf] at h; exact absurd rfl h

set_option maxRecDepth 4000 in
theorem lp_fill {G : GG} {dc : Nat} {I : Nat → Nat → Int32} {L : Nat → Nat → Int64} (hW : Wx dc I) (k : Nat) : ∀ i, i + k = dc → V G yX8_fill cX8_fill 3 (some .int) 3 0 0 23 [.ref 0, .int (nI (ct (pFl dc I) i)), .int (nI i)] [] (Mm dc (flM dc I i) L) (Is (some (.int (nI (ct (pFl dc I) dc)))) (Mm dc (flM dc I dc) L)) := by
  induction k with
  | zero =>
    intro i hi
    have hc9 := hW.1
    have hJ := Wx_fl hW i (by omega)
    refine v_ild2 dX8_fill_23 ?_
    refine v_ald0 dX8_fill_24 ?_
    refine v_getI dX8_fill_25 fl_X8_69 (by first | rfl | exact lay_door (by omega) | exact lay_dt (by omega) | exact lay_da (by omega) | exact lay_sh (by omega) | exact lay_se (by omega)) rfl (by omega) ?_
    refine v_icmp_ge (tgt := 60) dX8_fill_28 (by decide) (fun h28 => ?_) (fun h28 => absurd (by rw [hJ.2.1]; exact nI_le (by omega) (by omega)) h28)
    refine v_ild1 dX8_fill_60 ?_
    exact v_retI dX8_fill_61 trivial (by rw [show i = dc by omega]; exact ⟨rfl, rfl⟩)
  | succ k ih =>
    intro i hi
    have hc9 := hW.1
    have hJ := Wx_fl hW i (by omega)
    refine v_ild2 dX8_fill_23 ?_
    refine v_ald0 dX8_fill_24 ?_
    refine v_getI dX8_fill_25 fl_X8_69 (by first | rfl | exact lay_door (by omega) | exact lay_dt (by omega) | exact lay_da (by omega) | exact lay_sh (by omega) | exact lay_se (by omega)) rfl (by omega) ?_
    refine v_icmp_ge (tgt := 60) dX8_fill_28 (by decide) (fun h28 => absurd h28 (by rw [hJ.2.1]; exact nI_ge (by omega) (by omega))) (fun h28 => ?_)
    refine v_ald0 dX8_fill_31 ?_
    refine v_getP (q := 2) dX8_fill_32 fl_X8_17 (by first | rfl | exact lay_door (by omega) | exact lay_dt (by omega) | exact lay_da (by omega) | exact lay_sh (by omega) | exact lay_se (by omega)) rfl (by omega) rfl ?_
    refine v_ild2 dX8_fill_35 ?_
    refine v_aald13 dX8_fill_36 (by first | rfl | exact lay_door (by omega) | exact lay_dt (by omega) | exact lay_da (by omega) | exact lay_sh (by omega) | exact lay_se (by omega)) (by omega) ⟨rfl, by omega, by decide⟩ (Pc_d (by omega)) ?_
    refine v_getI dX8_fill_37 fl_X8_185 (by first | rfl | exact lay_door (by omega) | exact lay_dt (by omega) | exact lay_da (by omega) | exact lay_sh (by omega) | exact lay_se (by omega)) rfl (by omega) ?_
    refine v_if_ne (tgt := 54) dX8_fill_40 (by decide) (fun h40 => ?_) (fun h40 => ?_)
    · refine v_inc2 dX8_fill_54 rfl ?_
      refine v_goto (tgt := 23) dX8_fill_57 (by decide) ?_
      rw [nI_1 i]
      have h9 := ih (i + 1) (by omega)
      rw [flM_n h40, ct_f (p := pFl dc I) (decide_eq_false (fun z => h40 z.1))] at h9
      exact h9
    · refine v_ald0 dX8_fill_43 ?_
      refine v_ild2 dX8_fill_44 ?_
      refine v_V1 (c_X8_fillDoor hJ (by omega) h40) lk_X8_203 dX8_fill_45 (by decide) (Nat.le_of_ble_eq_true rfl) (by first | rfl | exact lay_door (by omega) | exact lay_dt (by omega) | exact lay_da (by omega) | exact lay_sh (by omega) | exact lay_se (by omega)) (show _ < 78 + 3 * _ by omega) ?_
      refine v_ifeq_b (tgt := 54) dX8_fill_48 (by decide) (fun h48 => ?_) (fun h48 => ?_)
      · refine v_inc2 dX8_fill_54 rfl ?_
        refine v_goto (tgt := 23) dX8_fill_57 (by decide) ?_
        rw [nI_1 i]
        have h9 := ih (i + 1) (by omega)
        rw [flM_y h40, ct_f (p := pFl dc I) (decide_eq_false (fun z => h48 z.2))] at h9
        exact h9
      · refine v_inc1 dX8_fill_51 rfl ?_
        refine v_inc2 dX8_fill_54 rfl ?_
        refine v_goto (tgt := 23) dX8_fill_57 (by decide) ?_
        rw [nI_1 i]
        have h9 := ih (i + 1) (by omega)
        rw [flM_y h40, ← nct_t (p := pFl dc I) (decide_eq_true ⟨h40, h48⟩)] at h9
        exact h9

def dFil (I : Nat → Nat → Int32) : Nat := if I 0 9 = 0 then 0 else 6

set_option maxRecDepth 4000 in
theorem c_X8_fill {G : GG} {dc : Nat} {I : Nat → Nat → Int32} {L : Nat → Nat → Int64} (hW : Wx dc I) : Cn G yX8_fill cX8_fill 3 (some .int) 3 0 0 [.ref 0] (Mm dc I L) (Is (some (.int (oR (dFil I) (nI (ct (pFl dc (u2 I 0 9 (nI 1))) dc))))) (oM (dFil I) dc I L (Mm dc (flM dc (u2 I 0 9 (nI 1)) dc) (L)))) := by
  refine Cn.of' (by decide) (Nat.le_of_ble_eq_true rfl) rfl ?_
  refine v_ald0 dX8_fill_0 ?_
  refine v_getI dX8_fill_1 fl_X8_65 (by first | rfl | exact lay_door (by omega) | exact lay_dt (by omega) | exact lay_da (by omega) | exact lay_sh (by omega) | exact lay_se (by omega)) rfl (by omega) ?_
  refine v_if_eq (tgt := 14) dX8_fill_4 (by decide) (fun h4 => ?_) (fun h4 => ?_)
  · refine v_ald0 dX8_fill_14 ?_
    refine v_icN (n := 1) dX8_fill_15 (by decide) ?_
    refine v_putZ dX8_fill_16 fl_X8_65 ft_8_9 (by first | rfl | exact lay_door (by omega) | exact lay_dt (by omega) | exact lay_da (by omega) | exact lay_sh (by omega) | exact lay_se (by omega)) rfl (by omega) (by first | exact Or.inl rfl | exact Or.inr rfl | exact bI_01) ?_
    refine v_icN (n := 0) dX8_fill_19 (by decide) ?_
    refine v_ist1 dX8_fill_20 rfl ?_
    refine v_icN (n := 0) dX8_fill_21 (by decide) ?_
    refine v_ist2 dX8_fill_22 rfl ?_
    simp only [dFil, if_pos h4]
    exact lp_fill (Wx_u hW (Or.inr (by decide)) (by decide)) dc 0 (by omega)
  · refine v_ald0 dX8_fill_7 ?_
    refine v_bipush (v := -6) dX8_fill_8 (by decide) ?_
    refine v_V1 (c_X8_refuse (k := 6) (by decide) (by decide) (by decide)) lk_X8_58 dX8_fill_10 (by decide) (Nat.le_of_ble_eq_true rfl) (by first | rfl | exact lay_door (by omega) | exact lay_dt (by omega) | exact lay_da (by omega) | exact lay_sh (by omega) | exact lay_se (by omega)) (show _ < 78 + 3 * _ by omega) ?_
    exact v_retI dX8_fill_13 trivial (by simp only [dFil, if_neg h4]; exact ⟨rfl, rfl⟩)

/-- the second count of a block's doors below n -/
def ksM (I : Nat → Nat → Int32) (f : Nat → Int32) (b : Int32) : Nat → Nat → Nat → Int32
  | 0 => I
  | d + 1 => if I (78 + 3 * d) 0 = b then u2 (ksM I f b d) (78 + 3 * d) 13 (f (ct (pOf I b) d)) else ksM I f b d
theorem ks_o (I : Nat → Nat → Int32) (f : Nat → Int32) (b : Int32) {x j : Nat} (h : j ≠ 13 ∨ x < 78) : ∀ d, ksM I f b d x j = I x j
  | 0 => rfl
  | d + 1 => by
    simp only [ksM]
    split
    · rw [show u2 (ksM I f b d) (78 + 3 * d) 13 (f (ct (pOf I b) d)) x j = ksM I f b d x j from if_neg (fun q => by omega)]
      exact ks_o I f b h d
    · exact ks_o I f b h d

theorem ct_mono (p : Nat → Bool) {m n : Nat} (h : m ≤ n) : ct p m ≤ ct p n := by
  induction n with
  | zero => rw [show m = 0 by omega]; exact Nat.le_refl _
  | succ n ih =>
    by_cases hm : m = n + 1
    · rw [hm]; exact Nat.le_refl _
    · have := ih (by omega)
      simp only [ct]
      split <;> omega

set_option maxRecDepth 4000 in
theorem lp_ks {G : GG} {dc : Nat} {I : Nat → Nat → Int32} {L : Nat → Nat → Int64} {b : Int32} {s : Nat} (hW : Wx dc I) (hs : s < 8) {z : Nat} (hz : I (23 + 2 * s) 2 = nI z) (hz2 : z ≤ 30) (hw : ct (pOf I b) dc ≤ z) (k : Nat) : ∀ i, i + k = dc → V G yX8_keepSecond cX8_keepSecond 6 (some .int) 2 0 0 8 [.ref 0, .int b, .ref (23 + 2 * s), .int (sC (pOf I b) (fun d => elI L s (ct (pOf I b) d)) i), .int (nI (ct (pOf I b) i)), .int (nI i)] [] (Mm dc (ksM I (elI L s) b i) L) (Is (some (.int (sC (pOf I b) (fun d => elI L s (ct (pOf I b) d)) dc))) (Mm dc (u2 (ksM I (elI L s) b dc) 0 8 (I 0 8 ||| (nI 1 <<< (b &&& 31)))) L)) := by
  induction k with
  | zero =>
    intro i hi
    have hc9 := hW.1
    have hm9 := ct_mono (pOf I b) (show i ≤ dc by omega)
    have hm8 := ct_le (pOf I b) dc
    refine v_ild5 dX8_keepSecond_8 ?_
    refine v_ald0 dX8_keepSecond_10 ?_
    refine v_getI dX8_keepSecond_11 fl_X8_69 (by first | rfl | exact lay_door (by omega) | exact lay_dt (by omega) | exact lay_da (by omega) | exact lay_sh (by omega) | exact lay_se (by omega)) rfl (by omega) ?_
    refine v_icmp_ge (tgt := 78) dX8_keepSecond_14 (by decide) (fun h14 => ?_) (fun h14 => absurd (by rw [ks_o _ _ _ (Or.inr (by decide)), hW.2.1]; exact nI_le (by omega) (by omega)) h14)
    refine v_ald0 dX8_keepSecond_78 ?_
    refine v_dupR dX8_keepSecond_79 ?_
    refine v_getI dX8_keepSecond_80 fl_X8_302 (by first | rfl | exact lay_door (by omega) | exact lay_dt (by omega) | exact lay_da (by omega) | exact lay_sh (by omega) | exact lay_se (by omega)) rfl (by omega) ?_
    refine v_icN (n := 1) dX8_keepSecond_83 (by decide) ?_
    refine v_ild1 dX8_keepSecond_84 ?_
    refine v_ishl dX8_keepSecond_85 ?_
    refine v_ior dX8_keepSecond_86 ?_
    refine v_putI dX8_keepSecond_87 fl_X8_302 ft_8_8 (by first | rfl | exact lay_door (by omega) | exact lay_dt (by omega) | exact lay_da (by omega) | exact lay_sh (by omega) | exact lay_se (by omega)) rfl (by omega) ?_
    refine v_ild3 dX8_keepSecond_90 ?_
    exact v_retI dX8_keepSecond_91 trivial (by rw [ks_o _ _ _ (Or.inr (by decide)), show i = dc by omega]; exact ⟨rfl, rfl⟩)
  | succ k ih =>
    intro i hi
    have hc9 := hW.1
    have hm9 := ct_mono (pOf I b) (show i ≤ dc by omega)
    have hm8 := ct_le (pOf I b) dc
    refine v_ild5 dX8_keepSecond_8 ?_
    refine v_ald0 dX8_keepSecond_10 ?_
    refine v_getI dX8_keepSecond_11 fl_X8_69 (by first | rfl | exact lay_door (by omega) | exact lay_dt (by omega) | exact lay_da (by omega) | exact lay_sh (by omega) | exact lay_se (by omega)) rfl (by omega) ?_
    refine v_icmp_ge (tgt := 78) dX8_keepSecond_14 (by decide) (fun h14 => absurd h14 (by rw [ks_o _ _ _ (Or.inr (by decide)), hW.2.1]; exact nI_ge (by omega) (by omega))) (fun h14 => ?_)
    refine v_ald0 dX8_keepSecond_17 ?_
    refine v_getP (q := 2) dX8_keepSecond_18 fl_X8_17 (by first | rfl | exact lay_door (by omega) | exact lay_dt (by omega) | exact lay_da (by omega) | exact lay_sh (by omega) | exact lay_se (by omega)) rfl (by omega) rfl ?_
    refine v_ild5 dX8_keepSecond_21 ?_
    refine v_aald13 dX8_keepSecond_23 (by first | rfl | exact lay_door (by omega) | exact lay_dt (by omega) | exact lay_da (by omega) | exact lay_sh (by omega) | exact lay_se (by omega)) (by omega) ⟨rfl, by omega, by decide⟩ (Pc_d (by omega)) ?_
    refine v_getI dX8_keepSecond_24 fl_X8_143 (by first | rfl | exact lay_door (by omega) | exact lay_dt (by omega) | exact lay_da (by omega) | exact lay_sh (by omega) | exact lay_se (by omega)) rfl (by omega) ?_
    refine v_ild1 dX8_keepSecond_27 ?_
    refine v_icmp_ne (tgt := 72) dX8_keepSecond_28 (by decide) (fun h28 => ?_) (fun h28 => ?_)
    · have h28' := h28
      rw [ks_o _ _ _ (Or.inl (by decide))] at h28'
      refine v_inc5 dX8_keepSecond_72 rfl ?_
      refine v_goto (tgt := 8) dX8_keepSecond_75 (by decide) ?_
      rw [nI_1 i]
      have h9 := ih (i + 1) (by omega)
      rw [show ksM I (elI L s) b (i + 1) = ksM I (elI L s) b i by simp only [ksM]; exact if_neg h28', ct_f (p := pOf I b) (decide_eq_false h28'), sC_f (p := pOf I b) (decide_eq_false h28')] at h9
      exact h9
    · have h28' : I (78 + 3 * i) 0 = b := by rw [ks_o _ _ _ (Or.inl (by decide))] at h28; exact h28
      have hl9 : ct (pOf I b) i < z := by
          have h7 := ct_mono (pOf I b) (show i + 1 ≤ dc by omega)
          have h6 := ct_t (p := pOf I b) (n := i) (decide_eq_true h28')
          omega
      refine v_ald2 dX8_keepSecond_31 ?_
      refine v_ild4 dX8_keepSecond_32 ?_
      refine v_V1 (c_X4_hasElement hs) lk_X8_91 dX8_keepSecond_34 (by decide) (Nat.le_of_ble_eq_true rfl) (by first | rfl | exact lay_door (by omega) | exact lay_dt (by omega) | exact lay_da (by omega) | exact lay_sh (by omega) | exact lay_se (by omega)) (show _ < 78 + 3 * _ by omega) ?_
      refine v_ifeq_b (tgt := 72) dX8_keepSecond_37 (by decide) (fun h37 => absurd ⟨nI_pos (by omega), by rw [ks_o _ _ _ (Or.inr (by omega)), hz]; exact nI_ge (by omega) (by omega)⟩ h37) (fun h37 => ?_)
      refine v_ald0 dX8_keepSecond_40 ?_
      refine v_getP (q := 2) dX8_keepSecond_41 fl_X8_17 (by first | rfl | exact lay_door (by omega) | exact lay_dt (by omega) | exact lay_da (by omega) | exact lay_sh (by omega) | exact lay_se (by omega)) rfl (by omega) rfl ?_
      refine v_ild5 dX8_keepSecond_44 ?_
      refine v_aald13 dX8_keepSecond_46 (by first | rfl | exact lay_door (by omega) | exact lay_dt (by omega) | exact lay_da (by omega) | exact lay_sh (by omega) | exact lay_se (by omega)) (by omega) ⟨rfl, by omega, by decide⟩ (Pc_d (by omega)) ?_
      refine v_ald2 dX8_keepSecond_47 ?_
      refine v_ild4 dX8_keepSecond_48 ?_
      refine v_V1 (c_X4_elementAsInt hs (z := z) (by rw [ks_o _ _ _ (Or.inr (by omega))]; exact hz) hz2 ⟨nI_pos (by omega), by rw [ks_o _ _ _ (Or.inr (by omega)), hz]; exact nI_ge (by omega) (by omega)⟩) lk_X8_237 dX8_keepSecond_50 (by decide) (Nat.le_of_ble_eq_true rfl) (by first | rfl | exact lay_door (by omega) | exact lay_dt (by omega) | exact lay_da (by omega) | exact lay_sh (by omega) | exact lay_se (by omega)) (show _ < 78 + 3 * _ by omega) ?_
      refine v_putI dX8_keepSecond_53 fl_X8_244 ft_1_13 (by first | rfl | exact lay_door (by omega) | exact lay_dt (by omega) | exact lay_da (by omega) | exact lay_sh (by omega) | exact lay_se (by omega)) rfl (by omega) ?_
      refine v_ild3 dX8_keepSecond_56 ?_
      refine v_ald0 dX8_keepSecond_57 ?_
      refine v_getP (q := 2) dX8_keepSecond_58 fl_X8_17 (by first | rfl | exact lay_door (by omega) | exact lay_dt (by omega) | exact lay_da (by omega) | exact lay_sh (by omega) | exact lay_se (by omega)) rfl (by omega) rfl ?_
      refine v_ild5 dX8_keepSecond_61 ?_
      refine v_aald13 dX8_keepSecond_63 (by first | rfl | exact lay_door (by omega) | exact lay_dt (by omega) | exact lay_da (by omega) | exact lay_sh (by omega) | exact lay_se (by omega)) (by omega) ⟨rfl, by omega, by decide⟩ (Pc_d (by omega)) ?_
      refine v_getI dX8_keepSecond_64 fl_X8_244 (by first | rfl | exact lay_door (by omega) | exact lay_dt (by omega) | exact lay_da (by omega) | exact lay_sh (by omega) | exact lay_se (by omega)) rfl (by omega) ?_
      refine v_iadd dX8_keepSecond_67 ?_
      refine v_ist3 dX8_keepSecond_68 rfl ?_
      refine v_inc4 dX8_keepSecond_69 rfl ?_
      have h28' := h28
      rw [ks_o _ _ _ (Or.inl (by decide))] at h28'
      refine v_inc5 dX8_keepSecond_72 rfl ?_
      refine v_goto (tgt := 8) dX8_keepSecond_75 (by decide) ?_
      rw [nI_1 i]
      have h9 := ih (i + 1) (by omega)
      rw [show ksM I (elI L s) b (i + 1) = u2 (ksM I (elI L s) b i) (78 + 3 * i) 13 (elI L s (ct (pOf I b) i)) by simp only [ksM]; exact if_pos h28', ← nct_t (p := pOf I b) (decide_eq_true h28'), sC_t (p := pOf I b) (decide_eq_true h28')] at h9
      rw [tn_nI (by omega), u2_s]
      exact h9

set_option maxRecDepth 4000 in
theorem c_X8_keepSecond {G : GG} {dc : Nat} {I : Nat → Nat → Int32} {L : Nat → Nat → Int64} {b : Int32} {s : Nat} (hW : Wx dc I) (hs : s < 8) {z : Nat} (hz : I (23 + 2 * s) 2 = nI z) (hz2 : z ≤ 30) (hw : ct (pOf I b) dc ≤ z) : Cn G yX8_keepSecond cX8_keepSecond 6 (some .int) 2 0 0 [.ref 0, .int b, .ref (23 + 2 * s)] (Mm dc I L) (Is (some (.int (sC (pOf I b) (fun d => elI L s (ct (pOf I b) d)) dc))) (Mm dc (u2 (ksM I (elI L s) b dc) 0 8 (I 0 8 ||| (nI 1 <<< (b &&& 31)))) L)) := by
  refine Cn.of' (by decide) (Nat.le_of_ble_eq_true rfl) rfl ?_
  refine v_icN (n := 0) dX8_keepSecond_0 (by decide) ?_
  refine v_ist3 dX8_keepSecond_1 rfl ?_
  refine v_icN (n := 0) dX8_keepSecond_2 (by decide) ?_
  refine v_ist4 dX8_keepSecond_3 rfl ?_
  refine v_icN (n := 0) dX8_keepSecond_5 (by decide) ?_
  refine v_ist5 dX8_keepSecond_6 rfl ?_
  exact lp_ks hW hs hz hz2 hw dc 0 (by omega)
