set_option maxRecDepth 4000 in
theorem c_X9_from {G : GG} {dc : Nat} {I : Nat → Nat → Int32} {L : Nat → Nat → Int64} {b : Int32} (hW : Wm dc I) : Cn G yX9_from cX9_from 2 (some .int) 1 0 0 [.ref 39, .int b] (Mm dc I L) (Is (some (.int (if inR b dc then I 50 (tn b) else -1))) (Mm dc I L)) := by
  refine Cn.of' (by decide) (Nat.le_of_ble_eq_true rfl) rfl ?_
  refine v_ald0 dX9_from_0 ?_
  refine v_ild1 dX9_from_1 ?_
  refine v_V1 (c_mDoor hW) lk_X9_172 dX9_from_2 (by decide) (Nat.le_of_ble_eq_true rfl) (by first | rfl | exact lay_door (by omega) | exact lay_dt (by omega) | exact lay_da (by omega) | exact lay_sh (by omega) | exact lay_se (by omega)) (show _ < 78 + 3 * _ by omega) ?_
  refine v_ifeq_b (tgt := 17) dX9_from_5 (by decide) (fun h5 => ?_) (fun h5 => ?_)
  · refine v_icm1 dX9_from_17 ?_
    exact v_retI dX9_from_18 trivial (by simp only [if_neg h5]; exact ⟨rfl, rfl⟩)
  · have hd9 := tn_lt rfl (by have := hW.1; omega) h5
    have hc9 := hW.1
    have hd8 : tn b < 24 := by omega
    obtain ⟨hw0, hw1, hw3, hw6⟩ := hW.2.2.2 _ hd9.1
    refine v_ald0 dX9_from_8 ?_
    refine v_getP (q := 50) dX9_from_9 fl_X9_40 (by first | rfl | exact lay_door (by omega) | exact lay_dt (by omega) | exact lay_da (by omega) | exact lay_sh (by omega) | exact lay_se (by omega)) rfl (by omega) rfl ?_
    refine v_ild1 dX9_from_12 ?_
    refine v_iald dX9_from_13 (by first | rfl | exact lay_door (by omega) | exact lay_dt (by omega) | exact lay_da (by omega) | exact lay_sh (by omega) | exact lay_se (by omega)) (by omega) ⟨hd9.2, hd8, by decide⟩ ?_
    refine v_goto (tgt := 18) dX9_from_14 (by decide) ?_
    exact v_retI dX9_from_18 trivial (by simp only [if_pos h5]; exact ⟨rfl, rfl⟩)

set_option maxRecDepth 4000 in
theorem c_X9_walk {G : GG} {dc : Nat} {I : Nat → Nat → Int32} {L : Nat → Nat → Int64} {b : Int32} : Cn G yX9_walk cX9_walk 2 (some .int) 1 0 0 [.ref 39, .int b] (Mm dc I L) (Is (some (.int (if inR b 6 then I 68 (tn b) else -1))) (Mm dc I L)) := by
  refine Cn.of' (by decide) (Nat.le_of_ble_eq_true rfl) rfl ?_
  refine v_ild1 dX9_walk_0 ?_
  refine v_S1 c_X9_isBlock lk_X9_142 dX9_walk_1 (by decide) (Nat.le_of_ble_eq_true rfl) ?_
  refine v_ifeq_b (tgt := 16) dX9_walk_4 (by decide) (fun h4 => ?_) (fun h4 => ?_)
  · refine v_icm1 dX9_walk_16 ?_
    exact v_retI dX9_walk_17 trivial (by simp only [if_neg h4]; exact ⟨rfl, rfl⟩)
  · refine v_ald0 dX9_walk_7 ?_
    refine v_getP (q := 68) dX9_walk_8 fl_X9_109 (by first | rfl | exact lay_door (by omega) | exact lay_dt (by omega) | exact lay_da (by omega) | exact lay_sh (by omega) | exact lay_se (by omega)) rfl (by omega) rfl ?_
    refine v_ild1 dX9_walk_11 ?_
    refine v_iald dX9_walk_12 (by first | rfl | exact lay_door (by omega) | exact lay_dt (by omega) | exact lay_da (by omega) | exact lay_sh (by omega) | exact lay_se (by omega)) (by omega) (ix_R (by decide) h4) ?_
    refine v_goto (tgt := 17) dX9_walk_13 (by decide) ?_
    exact v_retI dX9_walk_17 trivial (by simp only [if_pos h4]; exact ⟨rfl, rfl⟩)

def pSt (I : Nat → Nat → Int32) (d j : Nat) : Bool := decide (¬ I 53 (12 * d + j) = 0)
abbrev mny (I : Nat → Nat → Int32) (d : Nat) : Nat := tn (I 46 d)
theorem i_add0 (x : Int32) : x + nI 0 = x := Int32.add_zero x

set_option maxRecDepth 4000 in
theorem lp_sta {G : GG} {dc : Nat} {I : Nat → Nat → Int32} {L : Nat → Nat → Int64} {d : Nat} (hd : d < 24) (hm : rg (I 46 d) 12) (k : Nat) : ∀ i, i + k = mny I d → V G yX9_struckAt cX9_struckAt 4 (some .int) 0 0 0 4 [.ref 39, .int (nI d), .int (nI (ct (pSt I d) i)), .int (nI i)] [] (Mm dc I L) (Is (some (.int (nI (ct (pSt I d) (mny I d))))) (Mm dc I L)) := by
  induction k with
  | zero =>
    intro i hi
    have hm2 : mny I d ≤ 12 := hm.2
    have hm1 : I 46 d = nI (mny I d) := hm.1
    refine v_ild3 dX9_struckAt_4 ?_
    refine v_ald0 dX9_struckAt_5 ?_
    refine v_getP (q := 46) dX9_struckAt_6 fl_X9_28 (by first | rfl | exact lay_door (by omega) | exact lay_dt (by omega) | exact lay_da (by omega) | exact lay_sh (by omega) | exact lay_se (by omega)) rfl (by omega) rfl ?_
    refine v_ild1 dX9_struckAt_9 ?_
    refine v_iald dX9_struckAt_10 (by first | rfl | exact lay_door (by omega) | exact lay_dt (by omega) | exact lay_da (by omega) | exact lay_sh (by omega) | exact lay_se (by omega)) (by omega) ⟨rfl, hd, by decide⟩ ?_
    refine v_e0 (congrArg Value.int hm1) ?_
    refine v_icmp_ge (tgt := 42) dX9_struckAt_11 (by decide) (fun h11 => ?_) (fun h11 => absurd (nI_le (by omega) (by omega)) h11)
    refine v_ild2 dX9_struckAt_42 ?_
    exact v_retI dX9_struckAt_43 trivial (by rw [show i = mny I d by omega]; exact ⟨rfl, rfl⟩)
  | succ k ih =>
    intro i hi
    have hm2 : mny I d ≤ 12 := hm.2
    have hm1 : I 46 d = nI (mny I d) := hm.1
    refine v_ild3 dX9_struckAt_4 ?_
    refine v_ald0 dX9_struckAt_5 ?_
    refine v_getP (q := 46) dX9_struckAt_6 fl_X9_28 (by first | rfl | exact lay_door (by omega) | exact lay_dt (by omega) | exact lay_da (by omega) | exact lay_sh (by omega) | exact lay_se (by omega)) rfl (by omega) rfl ?_
    refine v_ild1 dX9_struckAt_9 ?_
    refine v_iald dX9_struckAt_10 (by first | rfl | exact lay_door (by omega) | exact lay_dt (by omega) | exact lay_da (by omega) | exact lay_sh (by omega) | exact lay_se (by omega)) (by omega) ⟨rfl, hd, by decide⟩ ?_
    refine v_e0 (congrArg Value.int hm1) ?_
    refine v_icmp_ge (tgt := 42) dX9_struckAt_11 (by decide) (fun h11 => absurd h11 (nI_ge (by omega) (by omega))) (fun h11 => ?_)
    refine v_ild2 dX9_struckAt_14 ?_
    refine v_ald0 dX9_struckAt_15 ?_
    refine v_getP (q := 53) dX9_struckAt_16 fl_X9_50 (by first | rfl | exact lay_door (by omega) | exact lay_dt (by omega) | exact lay_da (by omega) | exact lay_sh (by omega) | exact lay_se (by omega)) rfl (by omega) rfl ?_
    refine v_bipush (v := nI 12) dX9_struckAt_19 (by decide) ?_
    refine v_ild1 dX9_struckAt_21 ?_
    refine v_imul dX9_struckAt_22 ?_
    refine v_ild3 dX9_struckAt_23 ?_
    refine v_iadd dX9_struckAt_24 ?_
    refine v_zald dX9_struckAt_25 (by first | rfl | exact lay_door (by omega) | exact lay_dt (by omega) | exact lay_da (by omega) | exact lay_sh (by omega) | exact lay_se (by omega)) (by omega) (ix_mul rfl rfl (by omega) (by decide)) ?_
    refine v_if_eq (tgt := 33) dX9_struckAt_26 (by decide) (fun h26 => ?_) (fun h26 => ?_)
    · refine v_icN (n := 0) dX9_struckAt_33 (by decide) ?_
      refine v_iadd dX9_struckAt_34 ?_
      refine v_ist2 dX9_struckAt_35 rfl ?_
      refine v_inc3 dX9_struckAt_36 rfl ?_
      refine v_goto (tgt := 4) dX9_struckAt_39 (by decide) ?_
      rw [nct_f' (p := pSt I d) (decide_eq_false (fun z => z h26)), nI_1 i]
      exact ih (i + 1) (by omega)
    · refine v_icN (n := 1) dX9_struckAt_29 (by decide) ?_
      refine v_goto (tgt := 34) dX9_struckAt_30 (by decide) ?_
      refine v_iadd dX9_struckAt_34 ?_
      refine v_ist2 dX9_struckAt_35 rfl ?_
      refine v_inc3 dX9_struckAt_36 rfl ?_
      refine v_goto (tgt := 4) dX9_struckAt_39 (by decide) ?_
      rw [nct_t' (p := pSt I d) (decide_eq_true h26), nI_1 i]
      exact ih (i + 1) (by omega)

set_option maxRecDepth 4000 in
theorem c_X9_struckAt {G : GG} {dc : Nat} {I : Nat → Nat → Int32} {L : Nat → Nat → Int64} {b : Int32} {d : Nat} (hb : b = nI d) (hd : d < 24) (hm : rg (I 46 d) 12) : Cn G yX9_struckAt cX9_struckAt 4 (some .int) 0 0 0 [.ref 39, .int b] (Mm dc I L) (Is (some (.int (nI (ct (pSt I d) (mny I d))))) (Mm dc I L)) := by
  subst hb
  refine Cn.of' (by decide) (Nat.le_of_ble_eq_true rfl) rfl ?_
  refine v_icN (n := 0) dX9_struckAt_0 (by decide) ?_
  refine v_ist2 dX9_struckAt_1 rfl ?_
  refine v_icN (n := 0) dX9_struckAt_2 (by decide) ?_
  refine v_ist3 dX9_struckAt_3 rfl ?_
  exact lp_sta hd hm _ 0 (Nat.zero_add _)

def mTel (I : Nat → Nat → Int32) (d : Nat) (w : Int32) : Int32 := if w = nI 0 then I 45 d else if w = nI 1 then bI (¬ I 52 d = 0) else if w = nI 2 then I 46 d else if w = nI 3 then nI (ct (pSt I d) (mny I d)) else if w = nI 4 then I 48 d else if w = nI 5 then I 49 d else -1

set_option maxRecDepth 4000 in
theorem c_X9_about {G : GG} {dc : Nat} {I : Nat → Nat → Int32} {L : Nat → Nat → Int64} {b w : Int32} (hW : Wm dc I) : Cn G yX9_about cX9_about 3 (some .int) 1 0 0 [.ref 39, .int b, .int w] (Mm dc I L) (Is (some (.int (if inR b dc then mTel I (tn b) w else -1))) (Mm dc I L)) := by
  refine Cn.of' (by decide) (Nat.le_of_ble_eq_true rfl) rfl ?_
  refine v_ald0 dX9_about_0 ?_
  refine v_ild1 dX9_about_1 ?_
  refine v_V1 (c_mDoor hW) lk_X9_172 dX9_about_2 (by decide) (Nat.le_of_ble_eq_true rfl) (by first | rfl | exact lay_door (by omega) | exact lay_dt (by omega) | exact lay_da (by omega) | exact lay_sh (by omega) | exact lay_se (by omega)) (show _ < 78 + 3 * _ by omega) ?_
  refine v_ifne_b (tgt := 10) dX9_about_5 (by decide) (fun h5 => ?_) (fun h5 => ?_)
  · have hd9 := tn_lt rfl (by have := hW.1; omega) h5
    have hc9 := hW.1
    have hd8 : tn b < 24 := by omega
    obtain ⟨hw0, hw1, hw3, hw6⟩ := hW.2.2.2 _ hd9.1
    rw [if_pos h5]
    refine v_ild2 dX9_about_10 ?_
    refine v_tab (hi := 5) (tgt := 97) [48, 55, 70, 77, 83, 90] dX9_about_11 (by decide) (by decide) (by decide) (fun j t hj ht hx => ?_) (fun hx => ?_)
    · rcases (show j = 0 ∨ j = 1 ∨ j = 2 ∨ j = 3 ∨ j = 4 ∨ j = 5 by omega) with rfl | rfl | rfl | rfl | rfl | rfl <;> cases ht
      · refine v_ald0 dX9_about_48 ?_
        refine v_getP (q := 45) dX9_about_49 fl_X9_25 (by first | rfl | exact lay_door (by omega) | exact lay_dt (by omega) | exact lay_da (by omega) | exact lay_sh (by omega) | exact lay_se (by omega)) rfl (by omega) rfl ?_
        refine v_ild1 dX9_about_52 ?_
        refine v_iald dX9_about_53 (by first | rfl | exact lay_door (by omega) | exact lay_dt (by omega) | exact lay_da (by omega) | exact lay_sh (by omega) | exact lay_se (by omega)) (by omega) ⟨hd9.2, hd8, by decide⟩ ?_
        exact v_retI dX9_about_54 trivial (by rw [hx]; exact ⟨rfl, rfl⟩)
      · refine v_ald0 dX9_about_55 ?_
        refine v_getP (q := 52) dX9_about_56 fl_X9_46 (by first | rfl | exact lay_door (by omega) | exact lay_dt (by omega) | exact lay_da (by omega) | exact lay_sh (by omega) | exact lay_se (by omega)) rfl (by omega) rfl ?_
        refine v_ild1 dX9_about_59 ?_
        refine v_zald dX9_about_60 (by first | rfl | exact lay_door (by omega) | exact lay_dt (by omega) | exact lay_da (by omega) | exact lay_sh (by omega) | exact lay_se (by omega)) (by omega) ⟨hd9.2, hd8, by decide⟩ ?_
        refine v_if_eq (tgt := 68) dX9_about_61 (by decide) (fun h61 => ?_) (fun h61 => ?_)
        · refine v_icN (n := 0) dX9_about_68 (by decide) ?_
          exact v_retI dX9_about_69 trivial (by rw [hx, show mTel I (tn b) (nI 1) = bI (¬ I 52 (tn b) = 0) from rfl, bI_f (fun z => z h61)]; exact ⟨rfl, rfl⟩)
        · refine v_icN (n := 1) dX9_about_64 (by decide) ?_
          refine v_goto (tgt := 69) dX9_about_65 (by decide) ?_
          exact v_retI dX9_about_69 trivial (by rw [hx, show mTel I (tn b) (nI 1) = bI (¬ I 52 (tn b) = 0) from rfl, bI_t h61]; exact ⟨rfl, rfl⟩)
      · refine v_ald0 dX9_about_70 ?_
        refine v_getP (q := 46) dX9_about_71 fl_X9_28 (by first | rfl | exact lay_door (by omega) | exact lay_dt (by omega) | exact lay_da (by omega) | exact lay_sh (by omega) | exact lay_se (by omega)) rfl (by omega) rfl ?_
        refine v_ild1 dX9_about_74 ?_
        refine v_iald dX9_about_75 (by first | rfl | exact lay_door (by omega) | exact lay_dt (by omega) | exact lay_da (by omega) | exact lay_sh (by omega) | exact lay_se (by omega)) (by omega) ⟨hd9.2, hd8, by decide⟩ ?_
        exact v_retI dX9_about_76 trivial (by rw [hx]; exact ⟨rfl, rfl⟩)
      · refine v_ald0 dX9_about_77 ?_
        refine v_ild1 dX9_about_78 ?_
        refine v_V1 (c_X9_struckAt hd9.2 hd8 hw6) lk_X9_214 dX9_about_79 (by decide) (Nat.le_of_ble_eq_true rfl) (by first | rfl | exact lay_door (by omega) | exact lay_dt (by omega) | exact lay_da (by omega) | exact lay_sh (by omega) | exact lay_se (by omega)) (show _ < 78 + 3 * _ by omega) ?_
        exact v_retI dX9_about_82 trivial (by rw [hx]; exact ⟨rfl, rfl⟩)
      · refine v_ald0 dX9_about_83 ?_
        refine v_getP (q := 48) dX9_about_84 fl_X9_34 (by first | rfl | exact lay_door (by omega) | exact lay_dt (by omega) | exact lay_da (by omega) | exact lay_sh (by omega) | exact lay_se (by omega)) rfl (by omega) rfl ?_
        refine v_ild1 dX9_about_87 ?_
        refine v_iald dX9_about_88 (by first | rfl | exact lay_door (by omega) | exact lay_dt (by omega) | exact lay_da (by omega) | exact lay_sh (by omega) | exact lay_se (by omega)) (by omega) ⟨hd9.2, hd8, by decide⟩ ?_
        exact v_retI dX9_about_89 trivial (by rw [hx]; exact ⟨rfl, rfl⟩)
      · refine v_ald0 dX9_about_90 ?_
        refine v_getP (q := 49) dX9_about_91 fl_X9_37 (by first | rfl | exact lay_door (by omega) | exact lay_dt (by omega) | exact lay_da (by omega) | exact lay_sh (by omega) | exact lay_se (by omega)) rfl (by omega) rfl ?_
        refine v_ild1 dX9_about_94 ?_
        refine v_iald dX9_about_95 (by first | rfl | exact lay_door (by omega) | exact lay_dt (by omega) | exact lay_da (by omega) | exact lay_sh (by omega) | exact lay_se (by omega)) (by omega) ⟨hd9.2, hd8, by decide⟩ ?_
        exact v_retI dX9_about_96 trivial (by rw [hx]; exact ⟨rfl, rfl⟩)
    · refine v_icm1 dX9_about_97 ?_
      exact v_retI dX9_about_98 trivial (by rw [mTel, if_neg (hx 0 (by decide)), if_neg (hx 1 (by decide)), if_neg (hx 2 (by decide)), if_neg (hx 3 (by decide)), if_neg (hx 4 (by decide)), if_neg (hx 5 (by decide))]; exact ⟨rfl, rfl⟩)
  · refine v_icm1 dX9_about_8 ?_
    exact v_retI dX9_about_9 trivial (by simp only [if_neg h5]; exact ⟨rfl, rfl⟩)

set_option maxRecDepth 4000 in
theorem c_X9_age {G : GG} {dc : Nat} {I : Nat → Nat → Int32} {L : Nat → Nat → Int64} {b i : Int32} (hW : Wm dc I) : Cn G yX9_age cX9_age 3 (some .int) 1 0 0 [.ref 39, .int b, .int i] (Mm dc I L) (Is (some (.int (if inR b dc then (if ¬ i < 0 ∧ ¬ I 46 (tn b) ≤ i then I 47 (12 * tn b + tn i) else -1) else -1))) (Mm dc I L)) := by
  refine Cn.of' (by decide) (Nat.le_of_ble_eq_true rfl) rfl ?_
  refine v_ald0 dX9_age_0 ?_
  refine v_ild1 dX9_age_1 ?_
  refine v_V1 (c_mDoor hW) lk_X9_172 dX9_age_2 (by decide) (Nat.le_of_ble_eq_true rfl) (by first | rfl | exact lay_door (by omega) | exact lay_dt (by omega) | exact lay_da (by omega) | exact lay_sh (by omega) | exact lay_se (by omega)) (show _ < 78 + 3 * _ by omega) ?_
  refine v_ifeq_b (tgt := 31) dX9_age_5 (by decide) (fun h5 => ?_) (fun h5 => ?_)
  · refine v_icm1 dX9_age_31 ?_
    exact v_retI dX9_age_32 trivial (by simp only [if_neg h5]; exact ⟨rfl, rfl⟩)
  · have hd9 := tn_lt rfl (by have := hW.1; omega) h5
    have hc9 := hW.1
    have hd8 : tn b < 24 := by omega
    obtain ⟨hw0, hw1, hw3, hw6⟩ := hW.2.2.2 _ hd9.1
    refine v_ald0 dX9_age_8 ?_
    refine v_ild1 dX9_age_9 ?_
    refine v_ild2 dX9_age_10 ?_
    refine v_V2 (c_X9_isHead hd9.2 hd8) lk_X9_207 dX9_age_11 (by decide) (Nat.le_of_ble_eq_true rfl) (by first | rfl | exact lay_door (by omega) | exact lay_dt (by omega) | exact lay_da (by omega) | exact lay_sh (by omega) | exact lay_se (by omega)) (show _ < 78 + 3 * _ by omega) ?_
    refine v_ifeq_b (tgt := 31) dX9_age_14 (by decide) (fun h14 => ?_) (fun h14 => ?_)
    · refine v_icm1 dX9_age_31 ?_
      exact v_retI dX9_age_32 trivial (by simp only [if_pos h5, if_neg h14]; exact ⟨rfl, rfl⟩)
    · have hi9 := ix_le hw6.1 hw6.2 (by decide) h14
      have hi8 := hi9.2.1
      refine v_ald0 dX9_age_17 ?_
      refine v_getP (q := 47) dX9_age_18 fl_X9_31 (by first | rfl | exact lay_door (by omega) | exact lay_dt (by omega) | exact lay_da (by omega) | exact lay_sh (by omega) | exact lay_se (by omega)) rfl (by omega) rfl ?_
      refine v_bipush (v := nI 12) dX9_age_21 (by decide) ?_
      refine v_ild1 dX9_age_23 ?_
      refine v_imul dX9_age_24 ?_
      refine v_ild2 dX9_age_25 ?_
      refine v_iadd dX9_age_26 ?_
      refine v_iald dX9_age_27 (by first | rfl | exact lay_door (by omega) | exact lay_dt (by omega) | exact lay_da (by omega) | exact lay_sh (by omega) | exact lay_se (by omega)) (by omega) (ix_mul hd9.2 hi9.1 (by omega) (by decide)) ?_
      refine v_goto (tgt := 32) dX9_age_28 (by decide) ?_
      exact v_retI dX9_age_32 trivial (by simp only [if_pos h5, if_pos h14]; exact ⟨rfl, rfl⟩)

def mbd (a : Int32) : Int32 := if 0 ≤ a then (if nI 18 ≤ a then (if nI 65 ≤ a then nI 2 else nI 1) else nI 0) else nI 3

set_option maxRecDepth 4000 in
theorem c_X9_bandOf {G : GG} {μ : Mem} {a : Int32} : Cn G yX9_bandOf cX9_bandOf 1 (some .int) 0 0 0 [.int a] μ (Is (some (.int (mbd a))) μ) := by
  refine Cn.of' (by decide) (Nat.le_of_ble_eq_true rfl) rfl ?_
  refine v_ild0 dX9_bandOf_0 ?_
  refine v_if_ge (tgt := 8) dX9_bandOf_1 (by decide) (fun h1 => ?_) (fun h1 => ?_)
  · refine v_ild0 dX9_bandOf_8 ?_
    refine v_bipush (v := nI 18) dX9_bandOf_9 (by decide) ?_
    refine v_icmp_ge (tgt := 18) dX9_bandOf_11 (by decide) (fun h11 => ?_) (fun h11 => ?_)
    · refine v_ild0 dX9_bandOf_18 ?_
      refine v_bipush (v := nI 65) dX9_bandOf_19 (by decide) ?_
      refine v_icmp_ge (tgt := 28) dX9_bandOf_21 (by decide) (fun h21 => ?_) (fun h21 => ?_)
      · refine v_icN (n := 2) dX9_bandOf_28 (by decide) ?_
        exact v_retI dX9_bandOf_29 trivial (by simp only [mbd, if_pos h1, if_pos h11, if_pos h21]; exact ⟨rfl, rfl⟩)
      · refine v_icN (n := 1) dX9_bandOf_24 (by decide) ?_
        refine v_goto (tgt := 29) dX9_bandOf_25 (by decide) ?_
        exact v_retI dX9_bandOf_29 trivial (by simp only [mbd, if_pos h1, if_pos h11, if_neg h21]; exact ⟨rfl, rfl⟩)
    · refine v_icN (n := 0) dX9_bandOf_14 (by decide) ?_
      refine v_goto (tgt := 29) dX9_bandOf_15 (by decide) ?_
      exact v_retI dX9_bandOf_29 trivial (by simp only [mbd, if_pos h1, if_neg h11]; exact ⟨rfl, rfl⟩)
  · refine v_icN (n := 3) dX9_bandOf_4 (by decide) ?_
    refine v_goto (tgt := 29) dX9_bandOf_5 (by decide) ?_
    exact v_retI dX9_bandOf_29 trivial (by simp only [mbd, if_neg h1]; exact ⟨rfl, rfl⟩)

def pMB (I : Nat → Nat → Int32) (d : Nat) (v : Int32) (j : Nat) : Bool := decide (I 53 (12 * d + j) = 0 ∧ mbd (I 47 (12 * d + j)) = v)
def mCo (I : Nat → Nat → Int32) (b w : Int32) (d : Nat) : Bool := decide (I 40 d = b ∧ (¬ w = 0 ∨ ¬ I 45 d = nI 4))
def mBd (I : Nat → Nat → Int32) (v : Int32) (d : Nat) : Int32 := nI (ct (pMB I d v) (mny I d))
theorem acc_t {x : Int32} {p : Nat → Bool} {n : Nat} (h : p n = true) : x + nI (ct p n) + nI 1 = x + nI (ct p (n + 1)) := by rw [Int32.add_assoc, nct_t' h]
theorem acc_f {x : Int32} {p : Nat → Bool} {n : Nat} (h : p n = false) : x + nI (ct p n) + nI 0 = x + nI (ct p (n + 1)) := by rw [Int32.add_assoc, nct_f' h]

set_option maxRecDepth 4000 in
theorem lp_cdi {G : GG} {dc : Nat} {I : Nat → Nat → Int32} {L : Nat → Nat → Int64} {b v w x : Int32} {d : Nat} {Q : Option Value → Mem → Prop} (hd : d < 24) (hm : rg (I 46 d) 12) (hk : ∀ u : Value, V G yX9_counted cX9_counted 7 (some .int) 1 0 0 111 [.ref 39, .int b, .int v, .int w, .int (x + nI (ct (pMB I d v) (mny I d))), .int (nI d), u] [] (Mm dc I L) Q) (k : Nat) : ∀ i, i + k = mny I d → V G yX9_counted cX9_counted 7 (some .int) 1 0 0 47 [.ref 39, .int b, .int v, .int w, .int (x + nI (ct (pMB I d v) i)), .int (nI d), .int (nI i)] [] (Mm dc I L) Q := by
  induction k with
  | zero =>
    intro i hi
    have hm2 : mny I d ≤ 12 := hm.2
    have hm1 : I 46 d = nI (mny I d) := hm.1
    refine v_ild6 dX9_counted_47 ?_
    refine v_ald0 dX9_counted_49 ?_
    refine v_getP (q := 46) dX9_counted_50 fl_X9_28 (by first | rfl | exact lay_door (by omega) | exact lay_dt (by omega) | exact lay_da (by omega) | exact lay_sh (by omega) | exact lay_se (by omega)) rfl (by omega) rfl ?_
    refine v_ild5 dX9_counted_53 ?_
    refine v_iald dX9_counted_55 (by first | rfl | exact lay_door (by omega) | exact lay_dt (by omega) | exact lay_da (by omega) | exact lay_sh (by omega) | exact lay_se (by omega)) (by omega) ⟨rfl, hd, by decide⟩ ?_
    refine v_e0 (congrArg Value.int hm1) ?_
    refine v_icmp_ge (tgt := 111) dX9_counted_56 (by decide) (fun h56 => ?_) (fun h56 => absurd (nI_le (by omega) (by omega)) h56)
    rw [show i = mny I d by omega]
    exact hk _
  | succ k ih =>
    intro i hi
    have hm2 : mny I d ≤ 12 := hm.2
    have hm1 : I 46 d = nI (mny I d) := hm.1
    refine v_ild6 dX9_counted_47 ?_
    refine v_ald0 dX9_counted_49 ?_
    refine v_getP (q := 46) dX9_counted_50 fl_X9_28 (by first | rfl | exact lay_door (by omega) | exact lay_dt (by omega) | exact lay_da (by omega) | exact lay_sh (by omega) | exact lay_se (by omega)) rfl (by omega) rfl ?_
    refine v_ild5 dX9_counted_53 ?_
    refine v_iald dX9_counted_55 (by first | rfl | exact lay_door (by omega) | exact lay_dt (by omega) | exact lay_da (by omega) | exact lay_sh (by omega) | exact lay_se (by omega)) (by omega) ⟨rfl, hd, by decide⟩ ?_
    refine v_e0 (congrArg Value.int hm1) ?_
    refine v_icmp_ge (tgt := 111) dX9_counted_56 (by decide) (fun h56 => absurd h56 (nI_ge (by omega) (by omega))) (fun h56 => ?_)
    refine v_ild4 dX9_counted_59 ?_
    refine v_ald0 dX9_counted_61 ?_
    refine v_getP (q := 53) dX9_counted_62 fl_X9_50 (by first | rfl | exact lay_door (by omega) | exact lay_dt (by omega) | exact lay_da (by omega) | exact lay_sh (by omega) | exact lay_se (by omega)) rfl (by omega) rfl ?_
    refine v_bipush (v := nI 12) dX9_counted_65 (by decide) ?_
    refine v_ild5 dX9_counted_67 ?_
    refine v_imul dX9_counted_69 ?_
    refine v_ild6 dX9_counted_70 ?_
    refine v_iadd dX9_counted_72 ?_
    refine v_zald dX9_counted_73 (by first | rfl | exact lay_door (by omega) | exact lay_dt (by omega) | exact lay_da (by omega) | exact lay_sh (by omega) | exact lay_se (by omega)) (by omega) (ix_mul rfl rfl (by omega) (by decide)) ?_
    refine v_if_ne (tgt := 101) dX9_counted_74 (by decide) (fun h74 => ?_) (fun h74 => ?_)
    · refine v_icN (n := 0) dX9_counted_101 (by decide) ?_
      refine v_iadd dX9_counted_102 ?_
      refine v_ist4 dX9_counted_103 rfl ?_
      refine v_inc6 dX9_counted_105 rfl ?_
      refine v_goto (tgt := 47) dX9_counted_108 (by decide) ?_
      rw [acc_f (p := pMB I d v) (decide_eq_false (fun z => h74 z.1)), nI_1 i]
      exact ih (i + 1) (by omega)
    · refine v_ald0 dX9_counted_77 ?_
      refine v_getP (q := 47) dX9_counted_78 fl_X9_31 (by first | rfl | exact lay_door (by omega) | exact lay_dt (by omega) | exact lay_da (by omega) | exact lay_sh (by omega) | exact lay_se (by omega)) rfl (by omega) rfl ?_
      refine v_bipush (v := nI 12) dX9_counted_81 (by decide) ?_
      refine v_ild5 dX9_counted_83 ?_
      refine v_imul dX9_counted_85 ?_
      refine v_ild6 dX9_counted_86 ?_
      refine v_iadd dX9_counted_88 ?_
      refine v_iald dX9_counted_89 (by first | rfl | exact lay_door (by omega) | exact lay_dt (by omega) | exact lay_da (by omega) | exact lay_sh (by omega) | exact lay_se (by omega)) (by omega) (ix_mul rfl rfl (by omega) (by decide)) ?_
      refine v_S1 c_X9_bandOf lk_X9_217 dX9_counted_90 (by decide) (Nat.le_of_ble_eq_true rfl) ?_
      refine v_ild2 dX9_counted_93 ?_
      refine v_icmp_ne (tgt := 101) dX9_counted_94 (by decide) (fun h94 => ?_) (fun h94 => ?_)
      · refine v_icN (n := 0) dX9_counted_101 (by decide) ?_
        refine v_iadd dX9_counted_102 ?_
        refine v_ist4 dX9_counted_103 rfl ?_
        refine v_inc6 dX9_counted_105 rfl ?_
        refine v_goto (tgt := 47) dX9_counted_108 (by decide) ?_
        rw [acc_f (p := pMB I d v) (decide_eq_false (fun z => h94 z.2)), nI_1 i]
        exact ih (i + 1) (by omega)
      · refine v_icN (n := 1) dX9_counted_97 (by decide) ?_
        refine v_goto (tgt := 102) dX9_counted_98 (by decide) ?_
        refine v_iadd dX9_counted_102 ?_
        refine v_ist4 dX9_counted_103 rfl ?_
        refine v_inc6 dX9_counted_105 rfl ?_
        refine v_goto (tgt := 47) dX9_counted_108 (by decide) ?_
        rw [acc_t (p := pMB I d v) (decide_eq_true ⟨h74, h94⟩), nI_1 i]
        exact ih (i + 1) (by omega)

set_option maxRecDepth 4000 in
theorem lp_cdo {G : GG} {dc : Nat} {I : Nat → Nat → Int32} {L : Nat → Nat → Int64} {b v w : Int32} (hW : Wm dc I) (k : Nat) : ∀ i, i + k = dc → ∀ u : Value, V G yX9_counted cX9_counted 7 (some .int) 1 0 0 6 [.ref 39, .int b, .int v, .int w, .int (sC (mCo I b w) (mBd I v) i), .int (nI i), u] [] (Mm dc I L) (Is (some (.int (sC (mCo I b w) (mBd I v) dc))) (Mm dc I L)) := by
  induction k with
  | zero =>
    intro i hi u
    have hc9 := hW.1
    have h24 : i ≤ dc := by omega
    refine v_ild5 dX9_counted_6 ?_
    refine v_ald0 dX9_counted_8 ?_
    refine v_getI dX9_counted_9 fl_X9_139 (by first | rfl | exact lay_door (by omega) | exact lay_dt (by omega) | exact lay_da (by omega) | exact lay_sh (by omega) | exact lay_se (by omega)) rfl (by omega) ?_
    refine v_icmp_ge (tgt := 117) dX9_counted_12 (by decide) (fun h12 => ?_) (fun h12 => absurd (by rw [hW.2.1]; exact nI_le (by omega) (by omega)) h12)
    refine v_ild4 dX9_counted_117 ?_
    exact v_retI dX9_counted_119 trivial (by rw [show i = dc by omega]; exact ⟨rfl, rfl⟩)
  | succ k ih =>
    intro i hi u
    have hc9 := hW.1
    have h24 : i ≤ dc := by omega
    refine v_ild5 dX9_counted_6 ?_
    refine v_ald0 dX9_counted_8 ?_
    refine v_getI dX9_counted_9 fl_X9_139 (by first | rfl | exact lay_door (by omega) | exact lay_dt (by omega) | exact lay_da (by omega) | exact lay_sh (by omega) | exact lay_se (by omega)) rfl (by omega) ?_
    refine v_icmp_ge (tgt := 117) dX9_counted_12 (by decide) (fun h12 => absurd h12 (by rw [hW.2.1]; exact nI_ge (by omega) (by omega))) (fun h12 => ?_)
    refine v_ald0 dX9_counted_15 ?_
    refine v_getP (q := 40) dX9_counted_16 fl_X9_7 (by first | rfl | exact lay_door (by omega) | exact lay_dt (by omega) | exact lay_da (by omega) | exact lay_sh (by omega) | exact lay_se (by omega)) rfl (by omega) rfl ?_
    refine v_ild5 dX9_counted_19 ?_
    refine v_iald dX9_counted_21 (by first | rfl | exact lay_door (by omega) | exact lay_dt (by omega) | exact lay_da (by omega) | exact lay_sh (by omega) | exact lay_se (by omega)) (by omega) ⟨rfl, by omega, by decide⟩ ?_
    refine v_ild1 dX9_counted_22 ?_
    refine v_icmp_ne (tgt := 111) dX9_counted_23 (by decide) (fun h23 => ?_) (fun h23 => ?_)
    · refine v_inc5 dX9_counted_111 rfl ?_
      refine v_goto (tgt := 6) dX9_counted_114 (by decide) ?_
      rw [nI_1 i]
      have e9 : (sC (mCo I b w) (mBd I v) i) = (sC (mCo I b w) (mBd I v) (i + 1)) := (sC_f (decide_eq_false (fun q => h23 q.1))).symm
      rw [e9]
      exact ih (i + 1) (by omega) _
    · refine v_ild3 dX9_counted_26 ?_
      refine v_if_ne (tgt := 44) dX9_counted_27 (by decide) (fun h27 => ?_) (fun h27 => ?_)
      · refine v_icN (n := 0) dX9_counted_44 (by decide) ?_
        refine v_ist6 dX9_counted_45 rfl ?_
        have h9 := lp_cdi (G := G) (dc := dc) (I := I) (L := L) (b := b) (v := v) (w := w) (x := (sC (mCo I b w) (mBd I v) i)) (d := i) (Q := Is (some (.int (sC (mCo I b w) (mBd I v) dc))) (Mm dc I L)) (by omega) (hW.2.2.2 i (by omega)).2.2.2 (fun u => ?_) _ 0 (Nat.zero_add _)
        · rw [show nI (ct (pMB I i v) 0) = nI 0 from rfl, i_add0] at h9
          exact h9
        · rw [show (sC (mCo I b w) (mBd I v) i) + nI (ct (pMB I i v) (mny I i)) = (sC (mCo I b w) (mBd I v) (i + 1)) from (sC_t (decide_eq_true ⟨h23, Or.inl h27⟩)).symm]
          refine v_inc5 dX9_counted_111 rfl ?_
          refine v_goto (tgt := 6) dX9_counted_114 (by decide) ?_
          rw [nI_1 i]
          exact ih (i + 1) (by omega) _
      · refine v_ald0 dX9_counted_30 ?_
        refine v_getP (q := 45) dX9_counted_31 fl_X9_25 (by first | rfl | exact lay_door (by omega) | exact lay_dt (by omega) | exact lay_da (by omega) | exact lay_sh (by omega) | exact lay_se (by omega)) rfl (by omega) rfl ?_
        refine v_ild5 dX9_counted_34 ?_
        refine v_iald dX9_counted_36 (by first | rfl | exact lay_door (by omega) | exact lay_dt (by omega) | exact lay_da (by omega) | exact lay_sh (by omega) | exact lay_se (by omega)) (by omega) ⟨rfl, by omega, by decide⟩ ?_
        refine v_icN (n := 4) dX9_counted_37 (by decide) ?_
        refine v_icmp_ne (tgt := 44) dX9_counted_38 (by decide) (fun h38 => ?_) (fun h38 => ?_)
        · refine v_icN (n := 0) dX9_counted_44 (by decide) ?_
          refine v_ist6 dX9_counted_45 rfl ?_
          have h9 := lp_cdi (G := G) (dc := dc) (I := I) (L := L) (b := b) (v := v) (w := w) (x := (sC (mCo I b w) (mBd I v) i)) (d := i) (Q := Is (some (.int (sC (mCo I b w) (mBd I v) dc))) (Mm dc I L)) (by omega) (hW.2.2.2 i (by omega)).2.2.2 (fun u => ?_) _ 0 (Nat.zero_add _)
          · rw [show nI (ct (pMB I i v) 0) = nI 0 from rfl, i_add0] at h9
            exact h9
          · rw [show (sC (mCo I b w) (mBd I v) i) + nI (ct (pMB I i v) (mny I i)) = (sC (mCo I b w) (mBd I v) (i + 1)) from (sC_t (decide_eq_true ⟨h23, Or.inr h38⟩)).symm]
            refine v_inc5 dX9_counted_111 rfl ?_
            refine v_goto (tgt := 6) dX9_counted_114 (by decide) ?_
            rw [nI_1 i]
            exact ih (i + 1) (by omega) _
        · refine v_goto (tgt := 111) dX9_counted_41 (by decide) ?_
          refine v_inc5 dX9_counted_111 rfl ?_
          refine v_goto (tgt := 6) dX9_counted_114 (by decide) ?_
          rw [nI_1 i]
          have e9 : (sC (mCo I b w) (mBd I v) i) = (sC (mCo I b w) (mBd I v) (i + 1)) := (sC_f (decide_eq_false (fun q => q.2.elim (fun z => z h27) (fun z => z h38)))).symm
          rw [e9]
          exact ih (i + 1) (by omega) _

set_option maxRecDepth 4000 in
theorem c_X9_counted {G : GG} {dc : Nat} {I : Nat → Nat → Int32} {L : Nat → Nat → Int64} {b v w : Int32} (hW : Wm dc I) : Cn G yX9_counted cX9_counted 7 (some .int) 1 0 0 [.ref 39, .int b, .int v, .int w] (Mm dc I L) (Is (some (.int (sC (mCo I b w) (mBd I v) dc))) (Mm dc I L)) := by
  refine Cn.of' (by decide) (Nat.le_of_ble_eq_true rfl) rfl ?_
  refine v_icN (n := 0) dX9_counted_0 (by decide) ?_
  refine v_ist4 dX9_counted_1 rfl ?_
  refine v_icN (n := 0) dX9_counted_3 (by decide) ?_
  refine v_ist5 dX9_counted_4 rfl ?_
  exact lp_cdo hW dc 0 (by omega) _

set_option maxRecDepth 4000 in
theorem c_X9_count {G : GG} {dc : Nat} {I : Nat → Nat → Int32} {L : Nat → Nat → Int64} {b v w : Int32} (hW : Wm dc I) : Cn G yX9_count cX9_count 4 (some .int) 2 0 0 [.ref 39, .int b, .int v, .int w] (Mm dc I L) (Is (some (.int (if inR b 6 then (if inR v 4 then (sC (mCo I b w) (mBd I v) dc) else -1) else -1))) (Mm dc I L)) := by
  refine Cn.of' (by decide) (Nat.le_of_ble_eq_true rfl) rfl ?_
  refine v_ild1 dX9_count_0 ?_
  refine v_S1 c_X9_isBlock lk_X9_142 dX9_count_1 (by decide) (Nat.le_of_ble_eq_true rfl) ?_
  refine v_ifeq_b (tgt := 29) dX9_count_4 (by decide) (fun h4 => ?_) (fun h4 => ?_)
  · refine v_icm1 dX9_count_29 ?_
    exact v_retI dX9_count_30 trivial (by simp only [if_neg h4]; exact ⟨rfl, rfl⟩)
  · refine v_ild2 dX9_count_7 ?_
    refine v_i2l dX9_count_8 ?_
    refine v_lcN0 dX9_count_9 ?_
    refine v_ldc2 dX9_count_10 kc_X9_150 ?_
    refine v_S3 (c_isInR 3 (by decide) (by decide) (by decide)) lk_X9_152 dX9_count_13 (by decide) (Nat.le_of_ble_eq_true rfl) ?_
    refine v_ifeq_b (tgt := 29) dX9_count_16 (by decide) (fun h16 => ?_) (fun h16 => ?_)
    · refine v_icm1 dX9_count_29 ?_
      exact v_retI dX9_count_30 trivial (by simp only [if_pos h4, if_neg h16]; exact ⟨rfl, rfl⟩)
    · refine v_ald0 dX9_count_19 ?_
      refine v_ild1 dX9_count_20 ?_
      refine v_ild2 dX9_count_21 ?_
      refine v_ild3 dX9_count_22 ?_
      refine v_V3 (c_X9_counted hW) lk_X9_220 dX9_count_23 (by decide) (Nat.le_of_ble_eq_true rfl) (by first | rfl | exact lay_door (by omega) | exact lay_dt (by omega) | exact lay_da (by omega) | exact lay_sh (by omega) | exact lay_se (by omega)) (show _ < 78 + 3 * _ by omega) ?_
      refine v_goto (tgt := 30) dX9_count_26 (by decide) ?_
      exact v_retI dX9_count_30 trivial (by simp only [if_pos h4, if_pos h16]; exact ⟨rfl, rfl⟩)

abbrev mgr (I : Nat → Nat → Int32) (a b : Nat) : Prop := ¬ (I 58 a + nI 1) * (I 57 b + nI 2) ≤ (I 58 b + nI 1) * (I 57 a + nI 2)
def msh (I : Nat → Nat → Int32) (k : Nat) : Nat → Nat
  | 0 => 0
  | i + 1 => if mgr I (10 * k + (i + 1)) (10 * k + msh I k i) then i + 1 else msh I k i
theorem msh_le (I : Nat → Nat → Int32) (k : Nat) : ∀ i, msh I k i ≤ i
  | 0 => Nat.le_refl 0
  | i + 1 => by
    have := msh_le I k i
    simp only [msh]
    split <;> omega

set_option maxRecDepth 4000 in
theorem lp_mbh {G : GG} {dc : Nat} {I : Nat → Nat → Int32} {L : Nat → Nat → Int64} {q : Nat} (hq : q < 4) (k : Nat) : ∀ i, i + k = 9 → ∀ u v : Value, V G yX9_bestHour cX9_bestHour 6 (some .int) 1 0 0 18 [.ref 39, .int (nI q), .int (nI (msh I q i)), .int (nI (i + 1)), u, v] [] (Mm dc I L) (Is (some (.int (nI (msh I q 9)))) (Mm dc I L)) := by
  induction k with
  | zero =>
    intro i hi u v
    have hb9 := msh_le I q i
    refine v_ild3 dX9_bestHour_18 ?_
    refine v_bipush (v := nI 10) dX9_bestHour_19 (by decide) ?_
    refine v_icmp_ge (tgt := 97) dX9_bestHour_21 (by decide) (fun h21 => ?_) (fun h21 => absurd (nI_le (by omega) (by omega)) h21)
    refine v_ild2 dX9_bestHour_97 ?_
    exact v_retI dX9_bestHour_98 trivial (by rw [show i = 9 by omega]; exact ⟨rfl, rfl⟩)
  | succ k ih =>
    intro i hi u v
    have hb9 := msh_le I q i
    refine v_ild3 dX9_bestHour_18 ?_
    refine v_bipush (v := nI 10) dX9_bestHour_19 (by decide) ?_
    refine v_icmp_ge (tgt := 97) dX9_bestHour_21 (by decide) (fun h21 => absurd h21 (nI_ge (by omega) (by omega))) (fun h21 => ?_)
    refine v_ald0 dX9_bestHour_24 ?_
    refine v_getP (q := 58) dX9_bestHour_25 fl_X9_78 (by first | rfl | exact lay_door (by omega) | exact lay_dt (by omega) | exact lay_da (by omega) | exact lay_sh (by omega) | exact lay_se (by omega)) rfl (by omega) rfl ?_
    refine v_bipush (v := nI 10) dX9_bestHour_28 (by decide) ?_
    refine v_ild1 dX9_bestHour_30 ?_
    refine v_imul dX9_bestHour_31 ?_
    refine v_ild3 dX9_bestHour_32 ?_
    refine v_iadd dX9_bestHour_33 ?_
    refine v_iald dX9_bestHour_34 (by first | rfl | exact lay_door (by omega) | exact lay_dt (by omega) | exact lay_da (by omega) | exact lay_sh (by omega) | exact lay_se (by omega)) (by omega) (ix_mul rfl rfl (by omega) (by decide)) ?_
    refine v_icN (n := 1) dX9_bestHour_35 (by decide) ?_
    refine v_iadd dX9_bestHour_36 ?_
    refine v_ald0 dX9_bestHour_37 ?_
    refine v_getP (q := 57) dX9_bestHour_38 fl_X9_75 (by first | rfl | exact lay_door (by omega) | exact lay_dt (by omega) | exact lay_da (by omega) | exact lay_sh (by omega) | exact lay_se (by omega)) rfl (by omega) rfl ?_
    refine v_bipush (v := nI 10) dX9_bestHour_41 (by decide) ?_
    refine v_ild1 dX9_bestHour_43 ?_
    refine v_imul dX9_bestHour_44 ?_
    refine v_ild2 dX9_bestHour_45 ?_
    refine v_iadd dX9_bestHour_46 ?_
    refine v_iald dX9_bestHour_47 (by first | rfl | exact lay_door (by omega) | exact lay_dt (by omega) | exact lay_da (by omega) | exact lay_sh (by omega) | exact lay_se (by omega)) (by omega) (ix_mul rfl rfl (by omega) (by decide)) ?_
    refine v_icN (n := 2) dX9_bestHour_48 (by decide) ?_
    refine v_iadd dX9_bestHour_49 ?_
    refine v_imul dX9_bestHour_50 ?_
    refine v_ist4 dX9_bestHour_51 rfl ?_
    refine v_ald0 dX9_bestHour_53 ?_
    refine v_getP (q := 58) dX9_bestHour_54 fl_X9_78 (by first | rfl | exact lay_door (by omega) | exact lay_dt (by omega) | exact lay_da (by omega) | exact lay_sh (by omega) | exact lay_se (by omega)) rfl (by omega) rfl ?_
    refine v_bipush (v := nI 10) dX9_bestHour_57 (by decide) ?_
    refine v_ild1 dX9_bestHour_59 ?_
    refine v_imul dX9_bestHour_60 ?_
    refine v_ild2 dX9_bestHour_61 ?_
    refine v_iadd dX9_bestHour_62 ?_
    refine v_iald dX9_bestHour_63 (by first | rfl | exact lay_door (by omega) | exact lay_dt (by omega) | exact lay_da (by omega) | exact lay_sh (by omega) | exact lay_se (by omega)) (by omega) (ix_mul rfl rfl (by omega) (by decide)) ?_
    refine v_icN (n := 1) dX9_bestHour_64 (by decide) ?_
    refine v_iadd dX9_bestHour_65 ?_
    refine v_ald0 dX9_bestHour_66 ?_
    refine v_getP (q := 57) dX9_bestHour_67 fl_X9_75 (by first | rfl | exact lay_door (by omega) | exact lay_dt (by omega) | exact lay_da (by omega) | exact lay_sh (by omega) | exact lay_se (by omega)) rfl (by omega) rfl ?_
    refine v_bipush (v := nI 10) dX9_bestHour_70 (by decide) ?_
    refine v_ild1 dX9_bestHour_72 ?_
    refine v_imul dX9_bestHour_73 ?_
    refine v_ild3 dX9_bestHour_74 ?_
    refine v_iadd dX9_bestHour_75 ?_
    refine v_iald dX9_bestHour_76 (by first | rfl | exact lay_door (by omega) | exact lay_dt (by omega) | exact lay_da (by omega) | exact lay_sh (by omega) | exact lay_se (by omega)) (by omega) (ix_mul rfl rfl (by omega) (by decide)) ?_
    refine v_icN (n := 2) dX9_bestHour_77 (by decide) ?_
    refine v_iadd dX9_bestHour_78 ?_
    refine v_imul dX9_bestHour_79 ?_
    refine v_ist5 dX9_bestHour_80 rfl ?_
    refine v_ild4 dX9_bestHour_82 ?_
    refine v_ild5 dX9_bestHour_84 ?_
    refine v_icmp_le (tgt := 91) dX9_bestHour_86 (by decide) (fun h86 => ?_) (fun h86 => ?_)
    · refine v_inc3 dX9_bestHour_91 rfl ?_
      refine v_goto (tgt := 18) dX9_bestHour_94 (by decide) ?_
      have e9 : msh I q (i + 1) = msh I q i := if_neg (fun z => z h86)
      rw [nI_1 (i + 1)]
      have h9 := ih (i + 1) (by omega)
      rw [e9] at h9
      exact h9 _ _
    · refine v_ild3 dX9_bestHour_89 ?_
      refine v_ist2 dX9_bestHour_90 rfl ?_
      refine v_inc3 dX9_bestHour_91 rfl ?_
      refine v_goto (tgt := 18) dX9_bestHour_94 (by decide) ?_
      have e9 : msh I q (i + 1) = i + 1 := if_pos h86
      rw [nI_1 (i + 1)]
      have h9 := ih (i + 1) (by omega)
      rw [e9] at h9
      exact h9 _ _

set_option maxRecDepth 4000 in
theorem c_X9_bestHour {G : GG} {dc : Nat} {I : Nat → Nat → Int32} {L : Nat → Nat → Int64} {b : Int32} : Cn G yX9_bestHour cX9_bestHour 6 (some .int) 1 0 0 [.ref 39, .int b] (Mm dc I L) (Is (some (.int (if inR b 4 then nI (msh I (tn b) 9) else -1))) (Mm dc I L)) := by
  refine Cn.of' (by decide) (Nat.le_of_ble_eq_true rfl) rfl ?_
  refine v_ild1 dX9_bestHour_0 ?_
  refine v_i2l dX9_bestHour_1 ?_
  refine v_lcN0 dX9_bestHour_2 ?_
  refine v_ldc2 dX9_bestHour_3 kc_X9_150 ?_
  refine v_S3 (c_isInR 3 (by decide) (by decide) (by decide)) lk_X9_152 dX9_bestHour_6 (by decide) (Nat.le_of_ble_eq_true rfl) ?_
  refine v_ifne_b (tgt := 14) dX9_bestHour_9 (by decide) (fun h9 => ?_) (fun h9 => ?_)
  · refine v_icN (n := 0) dX9_bestHour_14 (by decide) ?_
    refine v_ist2 dX9_bestHour_15 rfl ?_
    refine v_icN (n := 1) dX9_bestHour_16 (by decide) ?_
    refine v_ist3 dX9_bestHour_17 rfl ?_
    rw [if_pos h9]
    have h8 := lp_mbh (G := G) (dc := dc) (I := I) (L := L) (ix_R (by decide) h9).2.1 9 0 (by omega) UU UU
    rw [← (ix_R (by decide) h9).1] at h8
    exact h8
  · refine v_icm1 dX9_bestHour_12 ?_
    exact v_retI dX9_bestHour_13 trivial (by simp only [if_neg h9]; exact ⟨rfl, rfl⟩)

def mCnt (I : Nat → Nat → Int32) (d : Nat) : Int32 := I 46 d - nI (ct (pSt I d) (mny I d))
def mStr (I : Nat → Nat → Int32) (d : Nat) : Int32 := nI (ct (pSt I d) (mny I d))

set_option maxRecDepth 4000 in
theorem lp_mca {G : GG} {dc : Nat} {I : Nat → Nat → Int32} {L : Nat → Nat → Int64} (hW : Wm dc I) (k : Nat) : ∀ i, i + k = dc → V G yX9_countedAll cX9_countedAll 3 (some .int) 1 0 0 4 [.ref 39, .int (sI (mCnt I) i), .int (nI i)] [] (Mm dc I L) (Is (some (.int (sI (mCnt I) dc))) (Mm dc I L)) := by
  induction k with
  | zero =>
    intro i hi
    have hc9 := hW.1
    have h24 : i ≤ dc := by omega
    refine v_ild2 dX9_countedAll_4 ?_
    refine v_ald0 dX9_countedAll_5 ?_
    refine v_getI dX9_countedAll_6 fl_X9_139 (by first | rfl | exact lay_door (by omega) | exact lay_dt (by omega) | exact lay_da (by omega) | exact lay_sh (by omega) | exact lay_se (by omega)) rfl (by omega) ?_
    refine v_icmp_ge (tgt := 33) dX9_countedAll_9 (by decide) (fun h9 => ?_) (fun h9 => absurd (by rw [hW.2.1]; exact nI_le (by omega) (by omega)) h9)
    refine v_ild1 dX9_countedAll_33 ?_
    exact v_retI dX9_countedAll_34 trivial (by rw [show i = dc by omega]; exact ⟨rfl, rfl⟩)
  | succ k ih =>
    intro i hi
    have hc9 := hW.1
    have h24 : i ≤ dc := by omega
    refine v_ild2 dX9_countedAll_4 ?_
    refine v_ald0 dX9_countedAll_5 ?_
    refine v_getI dX9_countedAll_6 fl_X9_139 (by first | rfl | exact lay_door (by omega) | exact lay_dt (by omega) | exact lay_da (by omega) | exact lay_sh (by omega) | exact lay_se (by omega)) rfl (by omega) ?_
    refine v_icmp_ge (tgt := 33) dX9_countedAll_9 (by decide) (fun h9 => absurd h9 (by rw [hW.2.1]; exact nI_ge (by omega) (by omega))) (fun h9 => ?_)
    refine v_ild1 dX9_countedAll_12 ?_
    refine v_ald0 dX9_countedAll_13 ?_
    refine v_getP (q := 46) dX9_countedAll_14 fl_X9_28 (by first | rfl | exact lay_door (by omega) | exact lay_dt (by omega) | exact lay_da (by omega) | exact lay_sh (by omega) | exact lay_se (by omega)) rfl (by omega) rfl ?_
    refine v_ild2 dX9_countedAll_17 ?_
    refine v_iald dX9_countedAll_18 (by first | rfl | exact lay_door (by omega) | exact lay_dt (by omega) | exact lay_da (by omega) | exact lay_sh (by omega) | exact lay_se (by omega)) (by omega) ⟨rfl, by omega, by decide⟩ ?_
    refine v_ald0 dX9_countedAll_19 ?_
    refine v_ild2 dX9_countedAll_20 ?_
    refine v_V1 (c_X9_struckAt rfl (by omega) (hW.2.2.2 i (by omega)).2.2.2) lk_X9_214 dX9_countedAll_21 (by decide) (Nat.le_of_ble_eq_true rfl) (by first | rfl | exact lay_door (by omega) | exact lay_dt (by omega) | exact lay_da (by omega) | exact lay_sh (by omega) | exact lay_se (by omega)) (show _ < 78 + 3 * _ by omega) ?_
    refine v_isub dX9_countedAll_24 ?_
    refine v_iadd dX9_countedAll_25 ?_
    refine v_ist1 dX9_countedAll_26 rfl ?_
    refine v_inc2 dX9_countedAll_27 rfl ?_
    refine v_goto (tgt := 4) dX9_countedAll_30 (by decide) ?_
    rw [nI_1 i]
    exact ih (i + 1) (by omega)

set_option maxRecDepth 4000 in
theorem c_X9_countedAll {G : GG} {dc : Nat} {I : Nat → Nat → Int32} {L : Nat → Nat → Int64} (hW : Wm dc I) : Cn G yX9_countedAll cX9_countedAll 3 (some .int) 1 0 0 [.ref 39] (Mm dc I L) (Is (some (.int (sI (mCnt I) dc))) (Mm dc I L)) := by
  refine Cn.of' (by decide) (Nat.le_of_ble_eq_true rfl) rfl ?_
  refine v_icN (n := 0) dX9_countedAll_0 (by decide) ?_
  refine v_ist1 dX9_countedAll_1 rfl ?_
  refine v_icN (n := 0) dX9_countedAll_2 (by decide) ?_
  refine v_ist2 dX9_countedAll_3 rfl ?_
  exact lp_mca hW dc 0 (by omega)
