/-- how many places below n are such -/
def ct (p : Nat → Bool) : Nat → Nat
  | 0 => 0
  | n + 1 => ct p n + (if p n then 1 else 0)
theorem ct_t {p : Nat → Bool} {n : Nat} (h : p n = true) : ct p (n + 1) = ct p n + 1 := by simp [ct, h]
theorem ct_f {p : Nat → Bool} {n : Nat} (h : p n = false) : ct p (n + 1) = ct p n := by simp [ct, h]
theorem ct_le (p : Nat → Bool) : ∀ n, ct p n ≤ n
  | 0 => Nat.le_refl 0
  | n + 1 => by
    have := ct_le p n
    simp only [ct]
    split <;> omega
theorem ct_cong {p q : Nat → Bool} : ∀ {n : Nat}, (∀ k, k < n → p k = q k) → ct p n = ct q n
  | 0, _ => rfl
  | n + 1, h => by
    have := ct_cong (p := p) (q := q) (n := n) (fun k hk => h k (by omega))
    simp only [ct, this, h n (by omega)]
theorem nct_t {p : Nat → Bool} {n : Nat} (h : p n = true) : nI (ct p n) + 1 = nI (ct p (n + 1)) := by rw [ct_t h, nI_1]
theorem nct_f {p : Nat → Bool} {n : Nat} (h : p n = false) : nI (ct p n) = nI (ct p (n + 1)) := by rw [ct_f h]
/-- heads of a door in a band that are counted -/
def pB (I : Nat → Nat → Int32) (d : Nat) (b : Int32) (j : Nat) : Bool := decide (¬ sbit (I (78 + 3 * d) 9) (nI j) ∧ bnd (I (78 + 3 * d + 2) j) = b)

set_option maxRecDepth 4000 in
theorem lp_cib {G : GG} {dc : Nat} {I : Nat → Nat → Int32} {L : Nat → Nat → Int64} {d : Nat} {b : Int32} {h : Nat} (hd : d < dc) (hdc : dc ≤ 24) (hh : I (78 + 3 * d) 8 = nI h) (h12 : h ≤ 12) (k : Nat) : ∀ i, i + k = h → V G yX1_countedInBand cX1_countedInBand 4 (some .int) 1 0 0 4 [.ref (78 + 3 * d), .int b, .int (nI (ct (pB I d b) i)), .int (nI i)] [] (Mm dc I L) (Is (some (.int (nI (ct (pB I d b) h)))) (Mm dc I L)) := by
  induction k with
  | zero =>
    intro i hi
    refine v_ild3 dX1_countedInBand_4 ?_
    refine v_ald0 dX1_countedInBand_5 ?_
    refine v_getI dX1_countedInBand_6 fl_X1_59 (by first | rfl | exact lay_door (by omega) | exact lay_dt (by omega) | exact lay_da (by omega) | exact lay_sh (by omega) | exact lay_se (by omega)) rfl (by omega) ?_
    refine v_icmp_ge (tgt := 42) dX1_countedInBand_9 (by decide) (fun h9 => ?_) (fun h9 => absurd (by rw [hh]; exact nI_le (by omega) (by omega)) h9)
    refine v_ild2 dX1_countedInBand_42 ?_
    exact v_retI dX1_countedInBand_43 trivial (by rw [show i = h by omega]; exact ⟨rfl, rfl⟩)
  | succ k ih =>
    intro i hi
    refine v_ild3 dX1_countedInBand_4 ?_
    refine v_ald0 dX1_countedInBand_5 ?_
    refine v_getI dX1_countedInBand_6 fl_X1_59 (by first | rfl | exact lay_door (by omega) | exact lay_dt (by omega) | exact lay_da (by omega) | exact lay_sh (by omega) | exact lay_se (by omega)) rfl (by omega) ?_
    refine v_icmp_ge (tgt := 42) dX1_countedInBand_9 (by decide) (fun h9 => absurd h9 (by rw [hh]; exact nI_ge (by omega) (by omega))) (fun h9 => ?_)
    refine v_ald0 dX1_countedInBand_12 ?_
    refine v_ild3 dX1_countedInBand_13 ?_
    refine v_V1 (c_X1_isStruck hd hdc) lk_X1_78 dX1_countedInBand_14 (by decide) (Nat.le_of_ble_eq_true rfl) (by first | rfl | exact lay_door (by omega) | exact lay_dt (by omega) | exact lay_da (by omega) | exact lay_sh (by omega) | exact lay_se (by omega)) (show _ < 78 + 3 * _ by omega) ?_
    refine v_ifne_b (tgt := 36) dX1_countedInBand_17 (by decide) (fun h17 => ?_) (fun h17 => ?_)
    · refine v_inc3 dX1_countedInBand_36 rfl ?_
      refine v_goto (tgt := 4) dX1_countedInBand_39 (by decide) ?_
      rw [nI_1 i]
      first | (rw [nct_t (p := pB I d b) (decide_eq_true ⟨h17, h30⟩)]; exact ih (i + 1) (by omega)) | (rw [nct_f (p := pB I d b) (decide_eq_false (fun q => h30 q.2))]; exact ih (i + 1) (by omega)) | (rw [nct_f (p := pB I d b) (decide_eq_false (fun q => q.1 h17))]; exact ih (i + 1) (by omega))
    · refine v_ald0 dX1_countedInBand_20 ?_
      refine v_getP dX1_countedInBand_21 fl_X1_15 (by first | rfl | exact lay_door (by omega) | exact lay_dt (by omega) | exact lay_da (by omega) | exact lay_sh (by omega) | exact lay_se (by omega)) rfl (by omega) (by first | rfl | exact Pc_d (by omega) | exact Pc_dt (by omega) | exact Pc_da (by omega) | exact Pc_s (by omega) | exact Pc_se (by omega)) ?_
      refine v_ild3 dX1_countedInBand_24 ?_
      refine v_iald dX1_countedInBand_25 (by first | rfl | exact lay_door (by omega) | exact lay_dt (by omega) | exact lay_da (by omega) | exact lay_sh (by omega) | exact lay_se (by omega)) (by omega) ⟨rfl, by omega, by decide⟩ ?_
      refine v_S1 c_X1_bandOf lk_X1_87 dX1_countedInBand_26 (by decide) (Nat.le_of_ble_eq_true rfl) ?_
      refine v_ild1 dX1_countedInBand_29 ?_
      refine v_icmp_ne (tgt := 36) dX1_countedInBand_30 (by decide) (fun h30 => ?_) (fun h30 => ?_)
      · refine v_inc3 dX1_countedInBand_36 rfl ?_
        refine v_goto (tgt := 4) dX1_countedInBand_39 (by decide) ?_
        rw [nI_1 i]
        first | (rw [nct_t (p := pB I d b) (decide_eq_true ⟨h17, h30⟩)]; exact ih (i + 1) (by omega)) | (rw [nct_f (p := pB I d b) (decide_eq_false (fun q => h30 q.2))]; exact ih (i + 1) (by omega)) | (rw [nct_f (p := pB I d b) (decide_eq_false (fun q => q.1 h17))]; exact ih (i + 1) (by omega))
      · refine v_inc2 dX1_countedInBand_33 rfl ?_
        refine v_inc3 dX1_countedInBand_36 rfl ?_
        refine v_goto (tgt := 4) dX1_countedInBand_39 (by decide) ?_
        rw [nI_1 i]
        first | (rw [nct_t (p := pB I d b) (decide_eq_true ⟨h17, h30⟩)]; exact ih (i + 1) (by omega)) | (rw [nct_f (p := pB I d b) (decide_eq_false (fun q => h30 q.2))]; exact ih (i + 1) (by omega)) | (rw [nct_f (p := pB I d b) (decide_eq_false (fun q => q.1 h17))]; exact ih (i + 1) (by omega))

set_option maxRecDepth 4000 in
theorem c_X1_countedInBand {G : GG} {dc : Nat} {I : Nat → Nat → Int32} {L : Nat → Nat → Int64} {d : Nat} {b : Int32} {h : Nat} (hd : d < dc) (hdc : dc ≤ 24) (hh : I (78 + 3 * d) 8 = nI h) (h12 : h ≤ 12) : Cn G yX1_countedInBand cX1_countedInBand 4 (some .int) 1 0 0 [.ref (78 + 3 * d), .int b] (Mm dc I L) (Is (some (.int (nI (ct (pB I d b) h)))) (Mm dc I L)) := by
  refine Cn.of' (by decide) (Nat.le_of_ble_eq_true rfl) rfl ?_
  refine v_icN (n := 0) dX1_countedInBand_0 (by decide) ?_
  refine v_ist2 dX1_countedInBand_1 rfl ?_
  refine v_icN (n := 0) dX1_countedInBand_2 (by decide) ?_
  refine v_ist3 dX1_countedInBand_3 rfl ?_
  exact lp_cib hd hdc hh h12 h 0 (by omega)

/-- heads of an age from 23 to 62 that are counted and whose age the step divides -/
def pH (I : Nat → Nat → Int32) (d : Nat) (s : Int32) (j : Nat) : Bool := decide (((¬ I (78 + 3 * d + 2) j < nI 23 ∧ ¬ nI 62 < I (78 + 3 * d + 2) j) ∧ ¬ sbit (I (78 + 3 * d) 9) (nI j)) ∧ I (78 + 3 * d + 2) j - I (78 + 3 * d + 2) j / s * s = 0)

set_option maxRecDepth 4000 in
theorem lp_cmh {G : GG} {dc : Nat} {I : Nat → Nat → Int32} {L : Nat → Nat → Int64} {d : Nat} {s : Int32} {h : Nat} (hd : d < dc) (hdc : dc ≤ 24) (hh : I (78 + 3 * d) 8 = nI h) (h12 : h ≤ 12) (hs : ¬ s ≤ 0) (k : Nat) : ∀ i, i + k = h → ∀ u : Value, V G yX1_countedThatMayHeap cX1_countedThatMayHeap 5 (some .int) 1 0 0 4 [.ref (78 + 3 * d), .int s, .int (nI (ct (pH I d s) i)), .int (nI i), u] [] (Mm dc I L) (Is (some (.int (nI (ct (pH I d s) h)))) (Mm dc I L)) := by
  induction k with
  | zero =>
    intro i hi u
    refine v_ild3 dX1_countedThatMayHeap_4 ?_
    refine v_ald0 dX1_countedThatMayHeap_5 ?_
    refine v_getI dX1_countedThatMayHeap_6 fl_X1_59 (by first | rfl | exact lay_door (by omega) | exact lay_dt (by omega) | exact lay_da (by omega) | exact lay_sh (by omega) | exact lay_se (by omega)) rfl (by omega) ?_
    refine v_icmp_ge (tgt := 78) dX1_countedThatMayHeap_9 (by decide) (fun h9 => ?_) (fun h9 => absurd (by rw [hh]; exact nI_le (by omega) (by omega)) h9)
    refine v_ild2 dX1_countedThatMayHeap_78 ?_
    exact v_retI dX1_countedThatMayHeap_79 trivial (by rw [show i = h by omega]; exact ⟨rfl, rfl⟩)
  | succ k ih =>
    intro i hi u
    refine v_ild3 dX1_countedThatMayHeap_4 ?_
    refine v_ald0 dX1_countedThatMayHeap_5 ?_
    refine v_getI dX1_countedThatMayHeap_6 fl_X1_59 (by first | rfl | exact lay_door (by omega) | exact lay_dt (by omega) | exact lay_da (by omega) | exact lay_sh (by omega) | exact lay_se (by omega)) rfl (by omega) ?_
    refine v_icmp_ge (tgt := 78) dX1_countedThatMayHeap_9 (by decide) (fun h9 => absurd h9 (by rw [hh]; exact nI_ge (by omega) (by omega))) (fun h9 => ?_)
    refine v_ald0 dX1_countedThatMayHeap_12 ?_
    refine v_getP dX1_countedThatMayHeap_13 fl_X1_15 (by first | rfl | exact lay_door (by omega) | exact lay_dt (by omega) | exact lay_da (by omega) | exact lay_sh (by omega) | exact lay_se (by omega)) rfl (by omega) (by first | rfl | exact Pc_d (by omega) | exact Pc_dt (by omega) | exact Pc_da (by omega) | exact Pc_s (by omega) | exact Pc_se (by omega)) ?_
    refine v_ild3 dX1_countedThatMayHeap_16 ?_
    refine v_iald dX1_countedThatMayHeap_17 (by first | rfl | exact lay_door (by omega) | exact lay_dt (by omega) | exact lay_da (by omega) | exact lay_sh (by omega) | exact lay_se (by omega)) (by omega) ⟨rfl, by omega, by decide⟩ ?_
    refine v_bipush (v := nI 23) dX1_countedThatMayHeap_18 (by decide) ?_
    refine v_icmp_lt (tgt := 46) dX1_countedThatMayHeap_20 (by decide) (fun h20 => ?_) (fun h20 => ?_)
    · refine v_icN (n := 0) dX1_countedThatMayHeap_46 (by decide) ?_
      refine v_ist4 dX1_countedThatMayHeap_47 rfl ?_
      refine v_ild4 dX1_countedThatMayHeap_49 ?_
      refine v_if_eq (tgt := 72) dX1_countedThatMayHeap_51 (by decide) (fun h51 => ?_) (fun h51 => ?_)
      · refine v_inc3 dX1_countedThatMayHeap_72 rfl ?_
        refine v_goto (tgt := 4) dX1_countedThatMayHeap_75 (by decide) ?_
        rw [nI_1 i]
        first | (exact absurd h51 (by decide)) | (rw [nct_t (p := pH I d s) (decide_eq_true ⟨⟨⟨h20, h31⟩, h39⟩, h66⟩)]; exact ih (i + 1) (by omega) _) | (rw [nct_f (p := pH I d s) (decide_eq_false (fun q => h66 q.2))]; exact ih (i + 1) (by omega) _) | (rw [nct_f (p := pH I d s) (decide_eq_false (fun q => q.1.2 h39))]; exact ih (i + 1) (by omega) _) | (rw [nct_f (p := pH I d s) (decide_eq_false (fun q => q.1.1.2 h31))]; exact ih (i + 1) (by omega) _) | (rw [nct_f (p := pH I d s) (decide_eq_false (fun q => q.1.1.1 h20))]; exact ih (i + 1) (by omega) _)
      · refine v_ild1 dX1_countedThatMayHeap_54 ?_
        refine v_if_le (tgt := 72) dX1_countedThatMayHeap_55 (by decide) (fun h55 => absurd h55 hs) (fun h55 => ?_)
        refine v_ald0 dX1_countedThatMayHeap_58 ?_
        refine v_getP dX1_countedThatMayHeap_59 fl_X1_15 (by first | rfl | exact lay_door (by omega) | exact lay_dt (by omega) | exact lay_da (by omega) | exact lay_sh (by omega) | exact lay_se (by omega)) rfl (by omega) (by first | rfl | exact Pc_d (by omega) | exact Pc_dt (by omega) | exact Pc_da (by omega) | exact Pc_s (by omega) | exact Pc_se (by omega)) ?_
        refine v_ild3 dX1_countedThatMayHeap_62 ?_
        refine v_iald dX1_countedThatMayHeap_63 (by first | rfl | exact lay_door (by omega) | exact lay_dt (by omega) | exact lay_da (by omega) | exact lay_sh (by omega) | exact lay_se (by omega)) (by omega) ⟨rfl, by omega, by decide⟩ ?_
        refine v_ild1 dX1_countedThatMayHeap_64 ?_
        refine v_irem dX1_countedThatMayHeap_65 (fun q => hs (by rw [q]; decide)) ?_
        refine v_if_ne (tgt := 72) dX1_countedThatMayHeap_66 (by decide) (fun h66 => ?_) (fun h66 => ?_)
        · refine v_inc3 dX1_countedThatMayHeap_72 rfl ?_
          refine v_goto (tgt := 4) dX1_countedThatMayHeap_75 (by decide) ?_
          rw [nI_1 i]
          first | (exact absurd h51 (by decide)) | (rw [nct_t (p := pH I d s) (decide_eq_true ⟨⟨⟨h20, h31⟩, h39⟩, h66⟩)]; exact ih (i + 1) (by omega) _) | (rw [nct_f (p := pH I d s) (decide_eq_false (fun q => h66 q.2))]; exact ih (i + 1) (by omega) _) | (rw [nct_f (p := pH I d s) (decide_eq_false (fun q => q.1.2 h39))]; exact ih (i + 1) (by omega) _) | (rw [nct_f (p := pH I d s) (decide_eq_false (fun q => q.1.1.2 h31))]; exact ih (i + 1) (by omega) _) | (rw [nct_f (p := pH I d s) (decide_eq_false (fun q => q.1.1.1 h20))]; exact ih (i + 1) (by omega) _)
        · refine v_inc2 dX1_countedThatMayHeap_69 rfl ?_
          refine v_inc3 dX1_countedThatMayHeap_72 rfl ?_
          refine v_goto (tgt := 4) dX1_countedThatMayHeap_75 (by decide) ?_
          rw [nI_1 i]
          first | (exact absurd h51 (by decide)) | (rw [nct_t (p := pH I d s) (decide_eq_true ⟨⟨⟨h20, h31⟩, h39⟩, h66⟩)]; exact ih (i + 1) (by omega) _) | (rw [nct_f (p := pH I d s) (decide_eq_false (fun q => h66 q.2))]; exact ih (i + 1) (by omega) _) | (rw [nct_f (p := pH I d s) (decide_eq_false (fun q => q.1.2 h39))]; exact ih (i + 1) (by omega) _) | (rw [nct_f (p := pH I d s) (decide_eq_false (fun q => q.1.1.2 h31))]; exact ih (i + 1) (by omega) _) | (rw [nct_f (p := pH I d s) (decide_eq_false (fun q => q.1.1.1 h20))]; exact ih (i + 1) (by omega) _)
    · refine v_ald0 dX1_countedThatMayHeap_23 ?_
      refine v_getP dX1_countedThatMayHeap_24 fl_X1_15 (by first | rfl | exact lay_door (by omega) | exact lay_dt (by omega) | exact lay_da (by omega) | exact lay_sh (by omega) | exact lay_se (by omega)) rfl (by omega) (by first | rfl | exact Pc_d (by omega) | exact Pc_dt (by omega) | exact Pc_da (by omega) | exact Pc_s (by omega) | exact Pc_se (by omega)) ?_
      refine v_ild3 dX1_countedThatMayHeap_27 ?_
      refine v_iald dX1_countedThatMayHeap_28 (by first | rfl | exact lay_door (by omega) | exact lay_dt (by omega) | exact lay_da (by omega) | exact lay_sh (by omega) | exact lay_se (by omega)) (by omega) ⟨rfl, by omega, by decide⟩ ?_
      refine v_bipush (v := nI 62) dX1_countedThatMayHeap_29 (by decide) ?_
      refine v_icmp_gt (tgt := 46) dX1_countedThatMayHeap_31 (by decide) (fun h31 => ?_) (fun h31 => ?_)
      · refine v_icN (n := 0) dX1_countedThatMayHeap_46 (by decide) ?_
        refine v_ist4 dX1_countedThatMayHeap_47 rfl ?_
        refine v_ild4 dX1_countedThatMayHeap_49 ?_
        refine v_if_eq (tgt := 72) dX1_countedThatMayHeap_51 (by decide) (fun h51 => ?_) (fun h51 => ?_)
        · refine v_inc3 dX1_countedThatMayHeap_72 rfl ?_
          refine v_goto (tgt := 4) dX1_countedThatMayHeap_75 (by decide) ?_
          rw [nI_1 i]
          first | (exact absurd h51 (by decide)) | (rw [nct_t (p := pH I d s) (decide_eq_true ⟨⟨⟨h20, h31⟩, h39⟩, h66⟩)]; exact ih (i + 1) (by omega) _) | (rw [nct_f (p := pH I d s) (decide_eq_false (fun q => h66 q.2))]; exact ih (i + 1) (by omega) _) | (rw [nct_f (p := pH I d s) (decide_eq_false (fun q => q.1.2 h39))]; exact ih (i + 1) (by omega) _) | (rw [nct_f (p := pH I d s) (decide_eq_false (fun q => q.1.1.2 h31))]; exact ih (i + 1) (by omega) _) | (rw [nct_f (p := pH I d s) (decide_eq_false (fun q => q.1.1.1 h20))]; exact ih (i + 1) (by omega) _)
        · refine v_ild1 dX1_countedThatMayHeap_54 ?_
          refine v_if_le (tgt := 72) dX1_countedThatMayHeap_55 (by decide) (fun h55 => absurd h55 hs) (fun h55 => ?_)
          refine v_ald0 dX1_countedThatMayHeap_58 ?_
          refine v_getP dX1_countedThatMayHeap_59 fl_X1_15 (by first | rfl | exact lay_door (by omega) | exact lay_dt (by omega) | exact lay_da (by omega) | exact lay_sh (by omega) | exact lay_se (by omega)) rfl (by omega) (by first | rfl | exact Pc_d (by omega) | exact Pc_dt (by omega) | exact Pc_da (by omega) | exact Pc_s (by omega) | exact Pc_se (by omega)) ?_
          refine v_ild3 dX1_countedThatMayHeap_62 ?_
          refine v_iald dX1_countedThatMayHeap_63 (by first | rfl | exact lay_door (by omega) | exact lay_dt (by omega) | exact lay_da (by omega) | exact lay_sh (by omega) | exact lay_se (by omega)) (by omega) ⟨rfl, by omega, by decide⟩ ?_
          refine v_ild1 dX1_countedThatMayHeap_64 ?_
          refine v_irem dX1_countedThatMayHeap_65 (fun q => hs (by rw [q]; decide)) ?_
          refine v_if_ne (tgt := 72) dX1_countedThatMayHeap_66 (by decide) (fun h66 => ?_) (fun h66 => ?_)
          · refine v_inc3 dX1_countedThatMayHeap_72 rfl ?_
            refine v_goto (tgt := 4) dX1_countedThatMayHeap_75 (by decide) ?_
            rw [nI_1 i]
            first | (exact absurd h51 (by decide)) | (rw [nct_t (p := pH I d s) (decide_eq_true ⟨⟨⟨h20, h31⟩, h39⟩, h66⟩)]; exact ih (i + 1) (by omega) _) | (rw [nct_f (p := pH I d s) (decide_eq_false (fun q => h66 q.2))]; exact ih (i + 1) (by omega) _) | (rw [nct_f (p := pH I d s) (decide_eq_false (fun q => q.1.2 h39))]; exact ih (i + 1) (by omega) _) | (rw [nct_f (p := pH I d s) (decide_eq_false (fun q => q.1.1.2 h31))]; exact ih (i + 1) (by omega) _) | (rw [nct_f (p := pH I d s) (decide_eq_false (fun q => q.1.1.1 h20))]; exact ih (i + 1) (by omega) _)
          · refine v_inc2 dX1_countedThatMayHeap_69 rfl ?_
            refine v_inc3 dX1_countedThatMayHeap_72 rfl ?_
            refine v_goto (tgt := 4) dX1_countedThatMayHeap_75 (by decide) ?_
            rw [nI_1 i]
            first | (exact absurd h51 (by decide)) | (rw [nct_t (p := pH I d s) (decide_eq_true ⟨⟨⟨h20, h31⟩, h39⟩, h66⟩)]; exact ih (i + 1) (by omega) _) | (rw [nct_f (p := pH I d s) (decide_eq_false (fun q => h66 q.2))]; exact ih (i + 1) (by omega) _) | (rw [nct_f (p := pH I d s) (decide_eq_false (fun q => q.1.2 h39))]; exact ih (i + 1) (by omega) _) | (rw [nct_f (p := pH I d s) (decide_eq_false (fun q => q.1.1.2 h31))]; exact ih (i + 1) (by omega) _) | (rw [nct_f (p := pH I d s) (decide_eq_false (fun q => q.1.1.1 h20))]; exact ih (i + 1) (by omega) _)
      · refine v_ald0 dX1_countedThatMayHeap_34 ?_
        refine v_ild3 dX1_countedThatMayHeap_35 ?_
        refine v_V1 (c_X1_isStruck hd hdc) lk_X1_78 dX1_countedThatMayHeap_36 (by decide) (Nat.le_of_ble_eq_true rfl) (by first | rfl | exact lay_door (by omega) | exact lay_dt (by omega) | exact lay_da (by omega) | exact lay_sh (by omega) | exact lay_se (by omega)) (show _ < 78 + 3 * _ by omega) ?_
        refine v_ifne_b (tgt := 46) dX1_countedThatMayHeap_39 (by decide) (fun h39 => ?_) (fun h39 => ?_)
        · refine v_icN (n := 0) dX1_countedThatMayHeap_46 (by decide) ?_
          refine v_ist4 dX1_countedThatMayHeap_47 rfl ?_
          refine v_ild4 dX1_countedThatMayHeap_49 ?_
          refine v_if_eq (tgt := 72) dX1_countedThatMayHeap_51 (by decide) (fun h51 => ?_) (fun h51 => ?_)
          · refine v_inc3 dX1_countedThatMayHeap_72 rfl ?_
            refine v_goto (tgt := 4) dX1_countedThatMayHeap_75 (by decide) ?_
            rw [nI_1 i]
            first | (exact absurd h51 (by decide)) | (rw [nct_t (p := pH I d s) (decide_eq_true ⟨⟨⟨h20, h31⟩, h39⟩, h66⟩)]; exact ih (i + 1) (by omega) _) | (rw [nct_f (p := pH I d s) (decide_eq_false (fun q => h66 q.2))]; exact ih (i + 1) (by omega) _) | (rw [nct_f (p := pH I d s) (decide_eq_false (fun q => q.1.2 h39))]; exact ih (i + 1) (by omega) _) | (rw [nct_f (p := pH I d s) (decide_eq_false (fun q => q.1.1.2 h31))]; exact ih (i + 1) (by omega) _) | (rw [nct_f (p := pH I d s) (decide_eq_false (fun q => q.1.1.1 h20))]; exact ih (i + 1) (by omega) _)
          · refine v_ild1 dX1_countedThatMayHeap_54 ?_
            refine v_if_le (tgt := 72) dX1_countedThatMayHeap_55 (by decide) (fun h55 => absurd h55 hs) (fun h55 => ?_)
            refine v_ald0 dX1_countedThatMayHeap_58 ?_
            refine v_getP dX1_countedThatMayHeap_59 fl_X1_15 (by first | rfl | exact lay_door (by omega) | exact lay_dt (by omega) | exact lay_da (by omega) | exact lay_sh (by omega) | exact lay_se (by omega)) rfl (by omega) (by first | rfl | exact Pc_d (by omega) | exact Pc_dt (by omega) | exact Pc_da (by omega) | exact Pc_s (by omega) | exact Pc_se (by omega)) ?_
            refine v_ild3 dX1_countedThatMayHeap_62 ?_
            refine v_iald dX1_countedThatMayHeap_63 (by first | rfl | exact lay_door (by omega) | exact lay_dt (by omega) | exact lay_da (by omega) | exact lay_sh (by omega) | exact lay_se (by omega)) (by omega) ⟨rfl, by omega, by decide⟩ ?_
            refine v_ild1 dX1_countedThatMayHeap_64 ?_
            refine v_irem dX1_countedThatMayHeap_65 (fun q => hs (by rw [q]; decide)) ?_
            refine v_if_ne (tgt := 72) dX1_countedThatMayHeap_66 (by decide) (fun h66 => ?_) (fun h66 => ?_)
            · refine v_inc3 dX1_countedThatMayHeap_72 rfl ?_
              refine v_goto (tgt := 4) dX1_countedThatMayHeap_75 (by decide) ?_
              rw [nI_1 i]
              first | (exact absurd h51 (by decide)) | (rw [nct_t (p := pH I d s) (decide_eq_true ⟨⟨⟨h20, h31⟩, h39⟩, h66⟩)]; exact ih (i + 1) (by omega) _) | (rw [nct_f (p := pH I d s) (decide_eq_false (fun q => h66 q.2))]; exact ih (i + 1) (by omega) _) | (rw [nct_f (p := pH I d s) (decide_eq_false (fun q => q.1.2 h39))]; exact ih (i + 1) (by omega) _) | (rw [nct_f (p := pH I d s) (decide_eq_false (fun q => q.1.1.2 h31))]; exact ih (i + 1) (by omega) _) | (rw [nct_f (p := pH I d s) (decide_eq_false (fun q => q.1.1.1 h20))]; exact ih (i + 1) (by omega) _)
            · refine v_inc2 dX1_countedThatMayHeap_69 rfl ?_
              refine v_inc3 dX1_countedThatMayHeap_72 rfl ?_
              refine v_goto (tgt := 4) dX1_countedThatMayHeap_75 (by decide) ?_
              rw [nI_1 i]
              first | (exact absurd h51 (by decide)) | (rw [nct_t (p := pH I d s) (decide_eq_true ⟨⟨⟨h20, h31⟩, h39⟩, h66⟩)]; exact ih (i + 1) (by omega) _) | (rw [nct_f (p := pH I d s) (decide_eq_false (fun q => h66 q.2))]; exact ih (i + 1) (by omega) _) | (rw [nct_f (p := pH I d s) (decide_eq_false (fun q => q.1.2 h39))]; exact ih (i + 1) (by omega) _) | (rw [nct_f (p := pH I d s) (decide_eq_false (fun q => q.1.1.2 h31))]; exact ih (i + 1) (by omega) _) | (rw [nct_f (p := pH I d s) (decide_eq_false (fun q => q.1.1.1 h20))]; exact ih (i + 1) (by omega) _)
        · refine v_icN (n := 1) dX1_countedThatMayHeap_42 (by decide) ?_
          refine v_goto (tgt := 47) dX1_countedThatMayHeap_43 (by decide) ?_
          refine v_ist4 dX1_countedThatMayHeap_47 rfl ?_
          refine v_ild4 dX1_countedThatMayHeap_49 ?_
          refine v_if_eq (tgt := 72) dX1_countedThatMayHeap_51 (by decide) (fun h51 => ?_) (fun h51 => ?_)
          · refine v_inc3 dX1_countedThatMayHeap_72 rfl ?_
            refine v_goto (tgt := 4) dX1_countedThatMayHeap_75 (by decide) ?_
            rw [nI_1 i]
            first | (exact absurd h51 (by decide)) | (rw [nct_t (p := pH I d s) (decide_eq_true ⟨⟨⟨h20, h31⟩, h39⟩, h66⟩)]; exact ih (i + 1) (by omega) _) | (rw [nct_f (p := pH I d s) (decide_eq_false (fun q => h66 q.2))]; exact ih (i + 1) (by omega) _) | (rw [nct_f (p := pH I d s) (decide_eq_false (fun q => q.1.2 h39))]; exact ih (i + 1) (by omega) _) | (rw [nct_f (p := pH I d s) (decide_eq_false (fun q => q.1.1.2 h31))]; exact ih (i + 1) (by omega) _) | (rw [nct_f (p := pH I d s) (decide_eq_false (fun q => q.1.1.1 h20))]; exact ih (i + 1) (by omega) _)
          · refine v_ild1 dX1_countedThatMayHeap_54 ?_
            refine v_if_le (tgt := 72) dX1_countedThatMayHeap_55 (by decide) (fun h55 => absurd h55 hs) (fun h55 => ?_)
            refine v_ald0 dX1_countedThatMayHeap_58 ?_
            refine v_getP dX1_countedThatMayHeap_59 fl_X1_15 (by first | rfl | exact lay_door (by omega) | exact lay_dt (by omega) | exact lay_da (by omega) | exact lay_sh (by omega) | exact lay_se (by omega)) rfl (by omega) (by first | rfl | exact Pc_d (by omega) | exact Pc_dt (by omega) | exact Pc_da (by omega) | exact Pc_s (by omega) | exact Pc_se (by omega)) ?_
            refine v_ild3 dX1_countedThatMayHeap_62 ?_
            refine v_iald dX1_countedThatMayHeap_63 (by first | rfl | exact lay_door (by omega) | exact lay_dt (by omega) | exact lay_da (by omega) | exact lay_sh (by omega) | exact lay_se (by omega)) (by omega) ⟨rfl, by omega, by decide⟩ ?_
            refine v_ild1 dX1_countedThatMayHeap_64 ?_
            refine v_irem dX1_countedThatMayHeap_65 (fun q => hs (by rw [q]; decide)) ?_
            refine v_if_ne (tgt := 72) dX1_countedThatMayHeap_66 (by decide) (fun h66 => ?_) (fun h66 => ?_)
            · refine v_inc3 dX1_countedThatMayHeap_72 rfl ?_
              refine v_goto (tgt := 4) dX1_countedThatMayHeap_75 (by decide) ?_
              rw [nI_1 i]
              first | (exact absurd h51 (by decide)) | (rw [nct_t (p := pH I d s) (decide_eq_true ⟨⟨⟨h20, h31⟩, h39⟩, h66⟩)]; exact ih (i + 1) (by omega) _) | (rw [nct_f (p := pH I d s) (decide_eq_false (fun q => h66 q.2))]; exact ih (i + 1) (by omega) _) | (rw [nct_f (p := pH I d s) (decide_eq_false (fun q => q.1.2 h39))]; exact ih (i + 1) (by omega) _) | (rw [nct_f (p := pH I d s) (decide_eq_false (fun q => q.1.1.2 h31))]; exact ih (i + 1) (by omega) _) | (rw [nct_f (p := pH I d s) (decide_eq_false (fun q => q.1.1.1 h20))]; exact ih (i + 1) (by omega) _)
            · refine v_inc2 dX1_countedThatMayHeap_69 rfl ?_
              refine v_inc3 dX1_countedThatMayHeap_72 rfl ?_
              refine v_goto (tgt := 4) dX1_countedThatMayHeap_75 (by decide) ?_
              rw [nI_1 i]
              first | (exact absurd h51 (by decide)) | (rw [nct_t (p := pH I d s) (decide_eq_true ⟨⟨⟨h20, h31⟩, h39⟩, h66⟩)]; exact ih (i + 1) (by omega) _) | (rw [nct_f (p := pH I d s) (decide_eq_false (fun q => h66 q.2))]; exact ih (i + 1) (by omega) _) | (rw [nct_f (p := pH I d s) (decide_eq_false (fun q => q.1.2 h39))]; exact ih (i + 1) (by omega) _) | (rw [nct_f (p := pH I d s) (decide_eq_false (fun q => q.1.1.2 h31))]; exact ih (i + 1) (by omega) _) | (rw [nct_f (p := pH I d s) (decide_eq_false (fun q => q.1.1.1 h20))]; exact ih (i + 1) (by omega) _)

set_option maxRecDepth 4000 in
theorem c_X1_countedThatMayHeap {G : GG} {dc : Nat} {I : Nat → Nat → Int32} {L : Nat → Nat → Int64} {d : Nat} {s : Int32} {h : Nat} (hd : d < dc) (hdc : dc ≤ 24) (hh : I (78 + 3 * d) 8 = nI h) (h12 : h ≤ 12) (hs : ¬ s ≤ 0) : Cn G yX1_countedThatMayHeap cX1_countedThatMayHeap 5 (some .int) 1 0 0 [.ref (78 + 3 * d), .int s] (Mm dc I L) (Is (some (.int (nI (ct (pH I d s) h)))) (Mm dc I L)) := by
  refine Cn.of' (by decide) (Nat.le_of_ble_eq_true rfl) rfl ?_
  refine v_icN (n := 0) dX1_countedThatMayHeap_0 (by decide) ?_
  refine v_ist2 dX1_countedThatMayHeap_1 rfl ?_
  refine v_icN (n := 0) dX1_countedThatMayHeap_2 (by decide) ?_
  refine v_ist3 dX1_countedThatMayHeap_3 rfl ?_
  exact lp_cmh hd hdc hh h12 hs h 0 (by omega) _
