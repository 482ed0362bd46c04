def dRow (s t z : Int32) : Nat := if inR s 8 then (if 0 ≤ z then (if t < 0 then 6 else (if t < nI 4 then (if z ≤ nI 30 then 0 else 7) else 6)) else 4) else 1

set_option maxRecDepth 4000 in
theorem c_X8_row {G : GG} {dc : Nat} {I : Nat → Nat → Int32} {L : Nat → Nat → Int64} {s t z : Int32} : Cn G yX8_row cX8_row 4 (some .int) 2 0 0 [.ref 0, .int s, .int t, .int z] (Mm dc I L) (Is (some (.int (oR (dRow s t z) (nI 1)))) (oM (dRow s t z) dc I L (Mm dc (u2 (u2 (u2 (u2 (u2 I (23 + 2 * tn s) 1 (-1)) (23 + 2 * tn s) 2 (nI 0)) (23 + 2 * tn s) 3 (-1)) (23 + 2 * tn s) 1 t) (23 + 2 * tn s) 2 z) (fl2 L (23 + 2 * tn s + 1) 30 (lN 0))))) := by
  refine Cn.of' (by decide) (Nat.le_of_ble_eq_true rfl) rfl ?_
  refine v_ild1 dX8_row_0 ?_
  refine v_S1 c_X8_isShelf lk_X8_80 dX8_row_1 (by decide) (Nat.le_of_ble_eq_true rfl) ?_
  refine v_ifne_b (tgt := 13) dX8_row_4 (by decide) (fun h4 => ?_) (fun h4 => ?_)
  · have hs9 : tn s < 8 := (ix_R (by decide) h4).2.1
    refine v_ild3 dX8_row_13 ?_
    refine v_if_ge (tgt := 24) dX8_row_14 (by decide) (fun h14 => ?_) (fun h14 => ?_)
    · refine v_ild2 dX8_row_24 ?_
      refine v_if_lt (tgt := 33) dX8_row_25 (by decide) (fun h25 => ?_) (fun h25 => ?_)
      · refine v_ald0 dX8_row_33 ?_
        refine v_bipush (v := -6) dX8_row_34 (by decide) ?_
        refine v_V1 (c_X8_refuse (k := 6) (by decide) (by decide) (by decide)) lk_X8_58 dX8_row_36 (by decide) (Nat.le_of_ble_eq_true rfl) (by first | rfl | exact lay_door (by omega) | exact lay_dt (by omega) | exact lay_da (by omega) | exact lay_sh (by omega) | exact lay_se (by omega)) (show _ < 78 + 3 * _ by omega) ?_
        exact v_retI dX8_row_39 trivial (by simp only [dRow, if_pos h4, if_pos h14, if_pos h25]; exact ⟨rfl, rfl⟩)
      · refine v_ild2 dX8_row_28 ?_
        refine v_icN (n := 4) dX8_row_29 (by decide) ?_
        refine v_icmp_lt (tgt := 40) dX8_row_30 (by decide) (fun h30 => ?_) (fun h30 => ?_)
        · refine v_ild3 dX8_row_40 ?_
          refine v_bipush (v := nI 30) dX8_row_41 (by decide) ?_
          refine v_icmp_le (tgt := 53) dX8_row_43 (by decide) (fun h43 => ?_) (fun h43 => ?_)
          · refine v_ald0 dX8_row_53 ?_
            refine v_getP (q := 1) dX8_row_54 fl_X8_11 (by first | rfl | exact lay_door (by omega) | exact lay_dt (by omega) | exact lay_da (by omega) | exact lay_sh (by omega) | exact lay_se (by omega)) rfl (by omega) rfl ?_
            refine v_ild1 dX8_row_57 ?_
            refine v_aald14 dX8_row_58 (by first | rfl | exact lay_door (by omega) | exact lay_dt (by omega) | exact lay_da (by omega) | exact lay_sh (by omega) | exact lay_se (by omega)) (by omega) (ix_R (by decide) h4) (Pc_s (ix_R (by decide) h4).2.1) ?_
            refine v_ild2 dX8_row_59 ?_
            refine v_ild3 dX8_row_60 ?_
            refine v_V2n (c_X4_putRow (ix_R (by decide) h4).2.1) lk_X8_83 dX8_row_61 (by decide) (Nat.le_of_ble_eq_true rfl) (by first | rfl | exact lay_door (by omega) | exact lay_dt (by omega) | exact lay_da (by omega) | exact lay_sh (by omega) | exact lay_se (by omega)) (show _ < 78 + 3 * _ by omega) ?_
            refine v_icN (n := 1) dX8_row_64 (by decide) ?_
            exact v_retI dX8_row_65 trivial (by simp only [dRow, if_pos h4, if_pos h14, if_neg h25, if_pos h30, if_pos h43]; exact ⟨rfl, rfl⟩)
          · refine v_ald0 dX8_row_46 ?_
            refine v_bipush (v := -7) dX8_row_47 (by decide) ?_
            refine v_V1 (c_X8_refuse (k := 7) (by decide) (by decide) (by decide)) lk_X8_58 dX8_row_49 (by decide) (Nat.le_of_ble_eq_true rfl) (by first | rfl | exact lay_door (by omega) | exact lay_dt (by omega) | exact lay_da (by omega) | exact lay_sh (by omega) | exact lay_se (by omega)) (show _ < 78 + 3 * _ by omega) ?_
            exact v_retI dX8_row_52 trivial (by simp only [dRow, if_pos h4, if_pos h14, if_neg h25, if_pos h30, if_neg h43]; exact ⟨rfl, rfl⟩)
        · refine v_ald0 dX8_row_33 ?_
          refine v_bipush (v := -6) dX8_row_34 (by decide) ?_
          refine v_V1 (c_X8_refuse (k := 6) (by decide) (by decide) (by decide)) lk_X8_58 dX8_row_36 (by decide) (Nat.le_of_ble_eq_true rfl) (by first | rfl | exact lay_door (by omega) | exact lay_dt (by omega) | exact lay_da (by omega) | exact lay_sh (by omega) | exact lay_se (by omega)) (show _ < 78 + 3 * _ by omega) ?_
          exact v_retI dX8_row_39 trivial (by simp only [dRow, if_pos h4, if_pos h14, if_neg h25, if_neg h30]; exact ⟨rfl, rfl⟩)
    · refine v_ald0 dX8_row_17 ?_
      refine v_bipush (v := -4) dX8_row_18 (by decide) ?_
      refine v_V1 (c_X8_refuse (k := 4) (by decide) (by decide) (by decide)) lk_X8_58 dX8_row_20 (by decide) (Nat.le_of_ble_eq_true rfl) (by first | rfl | exact lay_door (by omega) | exact lay_dt (by omega) | exact lay_da (by omega) | exact lay_sh (by omega) | exact lay_se (by omega)) (show _ < 78 + 3 * _ by omega) ?_
      exact v_retI dX8_row_23 trivial (by simp only [dRow, if_pos h4, if_neg h14]; exact ⟨rfl, rfl⟩)
  · refine v_ald0 dX8_row_7 ?_
    refine v_icm1 dX8_row_8 ?_
    refine v_V1 (c_X8_refuse (k := 1) (by decide) (by decide) (by decide)) lk_X8_58 dX8_row_9 (by decide) (Nat.le_of_ble_eq_true rfl) (by first | rfl | exact lay_door (by omega) | exact lay_dt (by omega) | exact lay_da (by omega) | exact lay_sh (by omega) | exact lay_se (by omega)) (show _ < 78 + 3 * _ by omega) ?_
    exact v_retI dX8_row_12 trivial (by simp only [dRow, if_neg h4]; exact ⟨rfl, rfl⟩)

def dSet (I : Nat → Nat → Int32) (s i : Int32) : Nat := if inR s 8 then (if sk I (tn s) = 0 then (if ¬ i < 0 ∧ ¬ I (23 + 2 * tn s) 2 ≤ i then 0 else 5) else sk I (tn s)) else 1

set_option maxRecDepth 4000 in
theorem c_X8_set {G : GG} {dc : Nat} {I : Nat → Nat → Int32} {L : Nat → Nat → Int64} {s i : Int32} {v : Int64} (hW : Wx dc I) : Cn G yX8_set cX8_set 6 (some .int) 2 0 0 [.ref 0, .int s, .int i, .long v] (Mm dc I L) (Is (some (.int (oR (dSet I s i) (nI 1)))) (oM (dSet I s i) dc I L (Mm dc (I) (u2 L (23 + 2 * tn s + 1) (tn i) (lowB (I (23 + 2 * tn s) 1) v))))) := by
  refine Cn.of' (by decide) (Nat.le_of_ble_eq_true rfl) rfl ?_
  refine v_ild1 dX8_set_0 ?_
  refine v_S1 c_X8_isShelf lk_X8_80 dX8_set_1 (by decide) (Nat.le_of_ble_eq_true rfl) ?_
  refine v_ifeq_b (tgt := 19) dX8_set_4 (by decide) (fun h4 => ?_) (fun h4 => ?_)
  · refine v_icm1 dX8_set_19 ?_
    refine v_ist5 dX8_set_20 rfl ?_
    refine v_ild5 dX8_set_22 ?_
    refine v_if_eq (tgt := 34) dX8_set_24 (by decide) (fun h24 => absurd h24 (by decide)) (fun h24 => ?_)
    refine v_ald0 dX8_set_27 ?_
    refine v_ild5 dX8_set_28 ?_
    refine v_V1 (by first | exact (c_X8_refuse (k := 1) (by decide) (by decide) (by decide)) | exact (c_X8_refuse (k := sk I (tn s)) (oRk h24 _) (sk_lt _ _) (Nat.one_le_iff_ne_zero.mpr h24))) lk_X8_58 dX8_set_30 (by decide) (Nat.le_of_ble_eq_true rfl) (by first | rfl | exact lay_door (by omega) | exact lay_dt (by omega) | exact lay_da (by omega) | exact lay_sh (by omega) | exact lay_se (by omega)) (show _ < 78 + 3 * _ by omega) ?_
    exact v_retI dX8_set_33 trivial (by simp only [dSet, if_neg h4, if_neg h24]; first | exact ⟨rfl, rfl⟩ | (rw [oRk h24, oMk h24]; exact ⟨rfl, rfl⟩))
  · have hs9 : tn s < 8 := (ix_R (by decide) h4).2.1
    refine v_ald0 dX8_set_7 ?_
    refine v_getP (q := 1) dX8_set_8 fl_X8_11 (by first | rfl | exact lay_door (by omega) | exact lay_dt (by omega) | exact lay_da (by omega) | exact lay_sh (by omega) | exact lay_se (by omega)) rfl (by omega) rfl ?_
    refine v_ild1 dX8_set_11 ?_
    refine v_aald14 dX8_set_12 (by first | rfl | exact lay_door (by omega) | exact lay_dt (by omega) | exact lay_da (by omega) | exact lay_sh (by omega) | exact lay_se (by omega)) (by omega) (ix_R (by decide) h4) (Pc_s (ix_R (by decide) h4).2.1) ?_
    refine v_V0 (c_fitR (ix_R (by decide) h4).2.1) lk_X8_87 dX8_set_13 (by decide) (Nat.le_of_ble_eq_true rfl) (by first | rfl | exact lay_door (by omega) | exact lay_dt (by omega) | exact lay_da (by omega) | exact lay_sh (by omega) | exact lay_se (by omega)) (show _ < 78 + 3 * _ by omega) ?_
    refine v_goto (tgt := 20) dX8_set_16 (by decide) ?_
    refine v_ist5 dX8_set_20 rfl ?_
    refine v_ild5 dX8_set_22 ?_
    refine v_ifeq_o (sk_lt _ _) (tgt := 34) dX8_set_24 (by decide) (fun h24 => ?_) (fun h24 => ?_)
    · refine v_ald0 dX8_set_34 ?_
      refine v_getP (q := 1) dX8_set_35 fl_X8_11 (by first | rfl | exact lay_door (by omega) | exact lay_dt (by omega) | exact lay_da (by omega) | exact lay_sh (by omega) | exact lay_se (by omega)) rfl (by omega) rfl ?_
      refine v_ild1 dX8_set_38 ?_
      refine v_aald14 dX8_set_39 (by first | rfl | exact lay_door (by omega) | exact lay_dt (by omega) | exact lay_da (by omega) | exact lay_sh (by omega) | exact lay_se (by omega)) (by omega) (ix_R (by decide) h4) (Pc_s (ix_R (by decide) h4).2.1) ?_
      refine v_ild2 dX8_set_40 ?_
      refine v_V1 (c_X4_hasElement (ix_R (by decide) h4).2.1) lk_X8_91 dX8_set_41 (by decide) (Nat.le_of_ble_eq_true rfl) (by first | rfl | exact lay_door (by omega) | exact lay_dt (by omega) | exact lay_da (by omega) | exact lay_sh (by omega) | exact lay_se (by omega)) (show _ < 78 + 3 * _ by omega) ?_
      refine v_ifne_b (tgt := 54) dX8_set_44 (by decide) (fun h44 => ?_) (fun h44 => ?_)
      · refine v_ald0 dX8_set_54 ?_
        refine v_getP (q := 1) dX8_set_55 fl_X8_11 (by first | rfl | exact lay_door (by omega) | exact lay_dt (by omega) | exact lay_da (by omega) | exact lay_sh (by omega) | exact lay_se (by omega)) rfl (by omega) rfl ?_
        refine v_ild1 dX8_set_58 ?_
        refine v_aald14 dX8_set_59 (by first | rfl | exact lay_door (by omega) | exact lay_dt (by omega) | exact lay_da (by omega) | exact lay_sh (by omega) | exact lay_se (by omega)) (by omega) (ix_R (by decide) h4) (Pc_s (ix_R (by decide) h4).2.1) ?_
        refine v_ild2 dX8_set_60 ?_
        refine v_lld3 dX8_set_61 ?_
        refine v_V2n (c_X4_putElement (ix_R (by decide) h4).2.1 (hW.sz (ix_R (by decide) h4).2.1).1 (hW.sz (ix_R (by decide) h4).2.1).2 h44) lk_X8_94 dX8_set_62 (by decide) (Nat.le_of_ble_eq_true rfl) (by first | rfl | exact lay_door (by omega) | exact lay_dt (by omega) | exact lay_da (by omega) | exact lay_sh (by omega) | exact lay_se (by omega)) (show _ < 78 + 3 * _ by omega) ?_
        refine v_icN (n := 1) dX8_set_65 (by decide) ?_
        exact v_retI dX8_set_66 trivial (by simp only [dSet, if_pos h4, if_pos h24, if_pos h44]; first | exact ⟨rfl, rfl⟩ | (rw [oRk h24, oMk h24]; exact ⟨rfl, rfl⟩))
      · refine v_ald0 dX8_set_47 ?_
        refine v_bipush (v := -5) dX8_set_48 (by decide) ?_
        refine v_V1 (c_X8_refuse (k := 5) (by decide) (by decide) (by decide)) lk_X8_58 dX8_set_50 (by decide) (Nat.le_of_ble_eq_true rfl) (by first | rfl | exact lay_door (by omega) | exact lay_dt (by omega) | exact lay_da (by omega) | exact lay_sh (by omega) | exact lay_se (by omega)) (show _ < 78 + 3 * _ by omega) ?_
        exact v_retI dX8_set_53 trivial (by simp only [dSet, if_pos h4, if_pos h24, if_neg h44]; first | exact ⟨rfl, rfl⟩ | (rw [oRk h24, oMk h24]; exact ⟨rfl, rfl⟩))
    · refine v_ald0 dX8_set_27 ?_
      refine v_ild5 dX8_set_28 ?_
      refine v_V1 (by first | exact (c_X8_refuse (k := 1) (by decide) (by decide) (by decide)) | exact (c_X8_refuse (k := sk I (tn s)) (oRk h24 _) (sk_lt _ _) (Nat.one_le_iff_ne_zero.mpr h24))) lk_X8_58 dX8_set_30 (by decide) (Nat.le_of_ble_eq_true rfl) (by first | rfl | exact lay_door (by omega) | exact lay_dt (by omega) | exact lay_da (by omega) | exact lay_sh (by omega) | exact lay_se (by omega)) (show _ < 78 + 3 * _ by omega) ?_
      exact v_retI dX8_set_33 trivial (by simp only [dSet, if_pos h4, if_neg h24]; first | exact ⟨rfl, rfl⟩ | (rw [oRk h24, oMk h24]; exact ⟨rfl, rfl⟩))

set_option maxRecDepth 4000 in
theorem c_X8_element {G : GG} {dc : Nat} {I : Nat → Nat → Int32} {L : Nat → Nat → Int64} {s i : Int32} (hW : Wx dc I) : Cn G yX8_element cX8_element 3 (some .long) 1 0 0 [.ref 0, .int s, .int i] (Mm dc I L) (Is (some (.long (if inR s 8 then (if ¬ i < 0 ∧ ¬ I (23 + 2 * tn s) 2 ≤ i then L (23 + 2 * tn s + 1) (tn i) else lN 0) else lN 0))) (Mm dc I L)) := by
  refine Cn.of' (by decide) (Nat.le_of_ble_eq_true rfl) rfl ?_
  refine v_ild1 dX8_element_0 ?_
  refine v_S1 c_X8_isShelf lk_X8_80 dX8_element_1 (by decide) (Nat.le_of_ble_eq_true rfl) ?_
  refine v_ifeq_b (tgt := 20) dX8_element_4 (by decide) (fun h4 => ?_) (fun h4 => ?_)
  · refine v_lcN0 dX8_element_20 ?_
    exact v_retL dX8_element_21 trivial (by simp only [if_neg h4]; exact ⟨rfl, rfl⟩)
  · have hs9 : tn s < 8 := (ix_R (by decide) h4).2.1
    refine v_ald0 dX8_element_7 ?_
    refine v_getP (q := 1) dX8_element_8 fl_X8_11 (by first | rfl | exact lay_door (by omega) | exact lay_dt (by omega) | exact lay_da (by omega) | exact lay_sh (by omega) | exact lay_se (by omega)) rfl (by omega) rfl ?_
    refine v_ild1 dX8_element_11 ?_
    refine v_aald14 dX8_element_12 (by first | rfl | exact lay_door (by omega) | exact lay_dt (by omega) | exact lay_da (by omega) | exact lay_sh (by omega) | exact lay_se (by omega)) (by omega) (ix_R (by decide) h4) (Pc_s (ix_R (by decide) h4).2.1) ?_
    refine v_ild2 dX8_element_13 ?_
    refine v_V1 (c_X4_hasElement (ix_R (by decide) h4).2.1) lk_X8_91 dX8_element_14 (by decide) (Nat.le_of_ble_eq_true rfl) (by first | rfl | exact lay_door (by omega) | exact lay_dt (by omega) | exact lay_da (by omega) | exact lay_sh (by omega) | exact lay_se (by omega)) (show _ < 78 + 3 * _ by omega) ?_
    refine v_ifne_b (tgt := 22) dX8_element_17 (by decide) (fun h17 => ?_) (fun h17 => ?_)
    · refine v_ald0 dX8_element_22 ?_
      refine v_getP (q := 1) dX8_element_23 fl_X8_11 (by first | rfl | exact lay_door (by omega) | exact lay_dt (by omega) | exact lay_da (by omega) | exact lay_sh (by omega) | exact lay_se (by omega)) rfl (by omega) rfl ?_
      refine v_ild1 dX8_element_26 ?_
      refine v_aald14 dX8_element_27 (by first | rfl | exact lay_door (by omega) | exact lay_dt (by omega) | exact lay_da (by omega) | exact lay_sh (by omega) | exact lay_se (by omega)) (by omega) (ix_R (by decide) h4) (Pc_s (ix_R (by decide) h4).2.1) ?_
      refine v_getP dX8_element_28 fl_X8_111 (by first | rfl | exact lay_door (by omega) | exact lay_dt (by omega) | exact lay_da (by omega) | exact lay_sh (by omega) | exact lay_se (by omega)) rfl (by omega) (by first | rfl | exact Pc_d (by omega) | exact Pc_dt (by omega) | exact Pc_da (by omega) | exact Pc_s (by omega) | exact Pc_se (by omega)) ?_
      refine v_ild2 dX8_element_31 ?_
      refine v_lald dX8_element_32 (by first | rfl | exact lay_door (by omega) | exact lay_dt (by omega) | exact lay_da (by omega) | exact lay_sh (by omega) | exact lay_se (by omega)) (by omega) (ix_le (hW.sz hs9).1 (hW.sz hs9).2 (by decide) h17) ?_
      exact v_retL dX8_element_33 trivial (by simp only [if_pos h4, if_pos h17]; exact ⟨rfl, rfl⟩)
    · refine v_lcN0 dX8_element_20 ?_
      exact v_retL dX8_element_21 trivial (by simp only [if_pos h4, if_neg h17]; exact ⟨rfl, rfl⟩)

def dShow (dc : Nat) (s b : Int32) : Nat := if inR s 8 then (if b = -1 then 0 else (if inR b dc then 0 else 1)) else 1
def shwI (I : Nat → Nat → Int32) (s : Nat) (b : Int32) : Nat → Nat → Int32 :=
  let J := u2 (u2 (u2 I (23 + 2 * s) 1 (-1)) (23 + 2 * s) 2 (nI 0)) (23 + 2 * s) 3 (-1)
  if b = -1 then J else u2 J (23 + 2 * s) 3 b

set_option maxRecDepth 4000 in
theorem c_X8_show {G : GG} {dc : Nat} {I : Nat → Nat → Int32} {L : Nat → Nat → Int64} {s b : Int32} (hW : Wx dc I) : Cn G yX8_show cX8_show 3 (some .int) 2 0 0 [.ref 0, .int s, .int b] (Mm dc I L) (Is (some (.int (oR (dShow dc s b) (if b = -1 then nI 0 else nI 1)))) (oM (dShow dc s b) dc I L (Mm dc (shwI I (tn s) b) (L)))) := by
  refine Cn.of' (by decide) (Nat.le_of_ble_eq_true rfl) rfl ?_
  refine v_ild1 dX8_show_0 ?_
  refine v_S1 c_X8_isShelf lk_X8_80 dX8_show_1 (by decide) (Nat.le_of_ble_eq_true rfl) ?_
  refine v_ifeq_b (tgt := 20) dX8_show_4 (by decide) (fun h4 => ?_) (fun h4 => ?_)
  · refine v_ald0 dX8_show_20 ?_
    refine v_icm1 dX8_show_21 ?_
    refine v_V1 (c_X8_refuse (k := 1) (by decide) (by decide) (by decide)) lk_X8_58 dX8_show_22 (by decide) (Nat.le_of_ble_eq_true rfl) (by first | rfl | exact lay_door (by omega) | exact lay_dt (by omega) | exact lay_da (by omega) | exact lay_sh (by omega) | exact lay_se (by omega)) (show _ < 78 + 3 * _ by omega) ?_
    exact v_retI dX8_show_25 trivial (by first | (exact absurd h9 h28) | (exact absurd h28 h9) | (simp only [dShow, shwI, if_neg h4]; exact ⟨rfl, rfl⟩))
  · have hs9 : tn s < 8 := (ix_R (by decide) h4).2.1
    refine v_ild2 dX8_show_7 ?_
    refine v_icm1 dX8_show_8 ?_
    refine v_icmp_eq (tgt := 26) dX8_show_9 (by decide) (fun h9 => ?_) (fun h9 => ?_)
    · refine v_ild2 dX8_show_26 ?_
      refine v_icm1 dX8_show_27 ?_
      refine v_icmp_ne (tgt := 42) dX8_show_28 (by decide) (fun h28 => ?_) (fun h28 => ?_)
      · refine v_ald0 dX8_show_42 ?_
        refine v_getP (q := 1) dX8_show_43 fl_X8_11 (by first | rfl | exact lay_door (by omega) | exact lay_dt (by omega) | exact lay_da (by omega) | exact lay_sh (by omega) | exact lay_se (by omega)) rfl (by omega) rfl ?_
        refine v_ild1 dX8_show_46 ?_
        refine v_aald14 dX8_show_47 (by first | rfl | exact lay_door (by omega) | exact lay_dt (by omega) | exact lay_da (by omega) | exact lay_sh (by omega) | exact lay_se (by omega)) (by omega) (ix_R (by decide) h4) (Pc_s (ix_R (by decide) h4).2.1) ?_
        refine v_ild2 dX8_show_48 ?_
        refine v_V1n (c_X4_putDoor hs9) lk_X8_126 dX8_show_49 (by decide) (Nat.le_of_ble_eq_true rfl) (by first | rfl | exact lay_door (by omega) | exact lay_dt (by omega) | exact lay_da (by omega) | exact lay_sh (by omega) | exact lay_se (by omega)) (show _ < 78 + 3 * _ by omega) ?_
        refine v_icN (n := 1) dX8_show_52 (by decide) ?_
        exact v_retI dX8_show_53 trivial (by first | (exact absurd h9 h28) | (exact absurd h28 h9) | (simp only [dShow, shwI, if_pos h4, if_pos h9, if_neg h28]; exact ⟨rfl, rfl⟩))
      · refine v_ald0 dX8_show_31 ?_
        refine v_getP (q := 1) dX8_show_32 fl_X8_11 (by first | rfl | exact lay_door (by omega) | exact lay_dt (by omega) | exact lay_da (by omega) | exact lay_sh (by omega) | exact lay_se (by omega)) rfl (by omega) rfl ?_
        refine v_ild1 dX8_show_35 ?_
        refine v_aald14 dX8_show_36 (by first | rfl | exact lay_door (by omega) | exact lay_dt (by omega) | exact lay_da (by omega) | exact lay_sh (by omega) | exact lay_se (by omega)) (by omega) (ix_R (by decide) h4) (Pc_s (ix_R (by decide) h4).2.1) ?_
        refine v_V0n (c_X4_putNothing hs9) lk_X8_123 dX8_show_37 (by decide) (Nat.le_of_ble_eq_true rfl) (by first | rfl | exact lay_door (by omega) | exact lay_dt (by omega) | exact lay_da (by omega) | exact lay_sh (by omega) | exact lay_se (by omega)) (show _ < 78 + 3 * _ by omega) ?_
        refine v_icN (n := 0) dX8_show_40 (by decide) ?_
        exact v_retI dX8_show_41 trivial (by first | (exact absurd h9 h28) | (exact absurd h28 h9) | (simp only [dShow, shwI, if_pos h4, if_pos h9, if_pos h28]; exact ⟨rfl, rfl⟩))
    · refine v_ald0 dX8_show_12 ?_
      refine v_ild2 dX8_show_13 ?_
      refine v_V1 (c_isDoor hW) lk_X8_121 dX8_show_14 (by decide) (Nat.le_of_ble_eq_true rfl) (by first | rfl | exact lay_door (by omega) | exact lay_dt (by omega) | exact lay_da (by omega) | exact lay_sh (by omega) | exact lay_se (by omega)) (show _ < 78 + 3 * _ by omega) ?_
      refine v_ifne_b (tgt := 26) dX8_show_17 (by decide) (fun h17 => ?_) (fun h17 => ?_)
      · refine v_ild2 dX8_show_26 ?_
        refine v_icm1 dX8_show_27 ?_
        refine v_icmp_ne (tgt := 42) dX8_show_28 (by decide) (fun h28 => ?_) (fun h28 => ?_)
        · refine v_ald0 dX8_show_42 ?_
          refine v_getP (q := 1) dX8_show_43 fl_X8_11 (by first | rfl | exact lay_door (by omega) | exact lay_dt (by omega) | exact lay_da (by omega) | exact lay_sh (by omega) | exact lay_se (by omega)) rfl (by omega) rfl ?_
          refine v_ild1 dX8_show_46 ?_
          refine v_aald14 dX8_show_47 (by first | rfl | exact lay_door (by omega) | exact lay_dt (by omega) | exact lay_da (by omega) | exact lay_sh (by omega) | exact lay_se (by omega)) (by omega) (ix_R (by decide) h4) (Pc_s (ix_R (by decide) h4).2.1) ?_
          refine v_ild2 dX8_show_48 ?_
          refine v_V1n (c_X4_putDoor hs9) lk_X8_126 dX8_show_49 (by decide) (Nat.le_of_ble_eq_true rfl) (by first | rfl | exact lay_door (by omega) | exact lay_dt (by omega) | exact lay_da (by omega) | exact lay_sh (by omega) | exact lay_se (by omega)) (show _ < 78 + 3 * _ by omega) ?_
          refine v_icN (n := 1) dX8_show_52 (by decide) ?_
          exact v_retI dX8_show_53 trivial (by first | (exact absurd h9 h28) | (exact absurd h28 h9) | (simp only [dShow, shwI, if_pos h4, if_neg h9, if_pos h17, if_neg h28]; exact ⟨rfl, rfl⟩))
        · refine v_ald0 dX8_show_31 ?_
          refine v_getP (q := 1) dX8_show_32 fl_X8_11 (by first | rfl | exact lay_door (by omega) | exact lay_dt (by omega) | exact lay_da (by omega) | exact lay_sh (by omega) | exact lay_se (by omega)) rfl (by omega) rfl ?_
          refine v_ild1 dX8_show_35 ?_
          refine v_aald14 dX8_show_36 (by first | rfl | exact lay_door (by omega) | exact lay_dt (by omega) | exact lay_da (by omega) | exact lay_sh (by omega) | exact lay_se (by omega)) (by omega) (ix_R (by decide) h4) (Pc_s (ix_R (by decide) h4).2.1) ?_
          refine v_V0n (c_X4_putNothing hs9) lk_X8_123 dX8_show_37 (by decide) (Nat.le_of_ble_eq_true rfl) (by first | rfl | exact lay_door (by omega) | exact lay_dt (by omega) | exact lay_da (by omega) | exact lay_sh (by omega) | exact lay_se (by omega)) (show _ < 78 + 3 * _ by omega) ?_
          refine v_icN (n := 0) dX8_show_40 (by decide) ?_
          exact v_retI dX8_show_41 trivial (by first | (exact absurd h9 h28) | (exact absurd h28 h9) | (simp only [dShow, shwI, if_pos h4, if_neg h9, if_pos h17, if_pos h28]; exact ⟨rfl, rfl⟩))
      · refine v_ald0 dX8_show_20 ?_
        refine v_icm1 dX8_show_21 ?_
        refine v_V1 (c_X8_refuse (k := 1) (by decide) (by decide) (by decide)) lk_X8_58 dX8_show_22 (by decide) (Nat.le_of_ble_eq_true rfl) (by first | rfl | exact lay_door (by omega) | exact lay_dt (by omega) | exact lay_da (by omega) | exact lay_sh (by omega) | exact lay_se (by omega)) (show _ < 78 + 3 * _ by omega) ?_
        exact v_retI dX8_show_25 trivial (by first | (exact absurd h9 h28) | (exact absurd h28 h9) | (simp only [dShow, shwI, if_pos h4, if_neg h9, if_neg h17]; exact ⟨rfl, rfl⟩))

set_option maxRecDepth 4000 in
theorem c_X8_holds {G : GG} {dc : Nat} {I : Nat → Nat → Int32} {L : Nat → Nat → Int64} {s : Int32} : Cn G yX8_holds cX8_holds 2 (some .int) 2 0 0 [.ref 0, .int s] (Mm dc I L) (Is (some (.int (if inR s 8 then (if ¬ I (23 + 2 * tn s) 1 = -1 then nI 100 + I (23 + 2 * tn s) 1 else I (23 + 2 * tn s) 3) else -1))) (Mm dc I L)) := by
  refine Cn.of' (by decide) (Nat.le_of_ble_eq_true rfl) rfl ?_
  refine v_ild1 dX8_holds_0 ?_
  refine v_S1 c_X8_isShelf lk_X8_80 dX8_holds_1 (by decide) (Nat.le_of_ble_eq_true rfl) ?_
  refine v_ifeq_b (tgt := 19) dX8_holds_4 (by decide) (fun h4 => ?_) (fun h4 => ?_)
  · refine v_icm1 dX8_holds_19 ?_
    exact v_retI dX8_holds_20 trivial (by simp only [if_neg h4]; exact ⟨rfl, rfl⟩)
  · have hs9 : tn s < 8 := (ix_R (by decide) h4).2.1
    refine v_ald0 dX8_holds_7 ?_
    refine v_getP (q := 1) dX8_holds_8 fl_X8_11 (by first | rfl | exact lay_door (by omega) | exact lay_dt (by omega) | exact lay_da (by omega) | exact lay_sh (by omega) | exact lay_se (by omega)) rfl (by omega) rfl ?_
    refine v_ild1 dX8_holds_11 ?_
    refine v_aald14 dX8_holds_12 (by first | rfl | exact lay_door (by omega) | exact lay_dt (by omega) | exact lay_da (by omega) | exact lay_sh (by omega) | exact lay_se (by omega)) (by omega) (ix_R (by decide) h4) (Pc_s (ix_R (by decide) h4).2.1) ?_
    refine v_V0 (c_X4_contents hs9) lk_X8_130 dX8_holds_13 (by decide) (Nat.le_of_ble_eq_true rfl) (by first | rfl | exact lay_door (by omega) | exact lay_dt (by omega) | exact lay_da (by omega) | exact lay_sh (by omega) | exact lay_se (by omega)) (show _ < 78 + 3 * _ by omega) ?_
    refine v_goto (tgt := 20) dX8_holds_16 (by decide) ?_
    exact v_retI dX8_holds_20 trivial (by simp only [if_pos h4]; exact ⟨rfl, rfl⟩)

def dBlk (I : Nat → Nat → Int32) (s : Int32) : Nat := if inR s 8 then skD I (tn s) else 1

set_option maxRecDepth 4000 in
theorem c_X8_blockIn {G : GG} {dc : Nat} {I : Nat → Nat → Int32} {L : Nat → Nat → Int64} {s : Int32} (hW : Wx dc I) (hdn : inR s 8 → skD I (tn s) = 0 → inR (I (23 + 2 * tn s) 3) dc) : Cn G yX8_blockIn cX8_blockIn 4 (some .int) 2 0 0 [.ref 0, .int s] (Mm dc I L) (Is (some (.int (oR (dBlk I s) (I (78 + 3 * tn (I (23 + 2 * tn s) 3)) 0)))) (oM (dBlk I s) dc I L (Mm dc (I) (L)))) := by
  refine Cn.of' (by decide) (Nat.le_of_ble_eq_true rfl) rfl ?_
  refine v_ild1 dX8_blockIn_0 ?_
  refine v_S1 c_X8_isShelf lk_X8_80 dX8_blockIn_1 (by decide) (Nat.le_of_ble_eq_true rfl) ?_
  refine v_ifeq_b (tgt := 19) dX8_blockIn_4 (by decide) (fun h4 => ?_) (fun h4 => ?_)
  · refine v_icm1 dX8_blockIn_19 ?_
    refine v_ist2 dX8_blockIn_20 rfl ?_
    refine v_ild2 dX8_blockIn_21 ?_
    refine v_if_eq (tgt := 31) dX8_blockIn_22 (by decide) (fun h22 => absurd h22 (by decide)) (fun h22 => ?_)
    refine v_ald0 dX8_blockIn_25 ?_
    refine v_ild2 dX8_blockIn_26 ?_
    refine v_V1 (by first | exact (c_X8_refuse (k := 1) (by decide) (by decide) (by decide)) | exact (c_X8_refuse (k := skD I (tn s)) (oRk h22 _) (skD_lt _ _) (Nat.one_le_iff_ne_zero.mpr h22))) lk_X8_58 dX8_blockIn_27 (by decide) (Nat.le_of_ble_eq_true rfl) (by first | rfl | exact lay_door (by omega) | exact lay_dt (by omega) | exact lay_da (by omega) | exact lay_sh (by omega) | exact lay_se (by omega)) (show _ < 78 + 3 * _ by omega) ?_
    exact v_retI dX8_blockIn_30 trivial (by first | (simp only [dBlk, if_neg h4, if_neg h22]; exact ⟨rfl, rfl⟩) | (simp only [dBlk, if_pos h4]; rw [h22]; exact ⟨rfl, rfl⟩) | (simp only [dBlk, if_pos h4]; rw [oRk h22, oMk h22]; exact ⟨rfl, rfl⟩))
  · have hs9 : tn s < 8 := (ix_R (by decide) h4).2.1
    refine v_ald0 dX8_blockIn_7 ?_
    refine v_getP (q := 1) dX8_blockIn_8 fl_X8_11 (by first | rfl | exact lay_door (by omega) | exact lay_dt (by omega) | exact lay_da (by omega) | exact lay_sh (by omega) | exact lay_se (by omega)) rfl (by omega) rfl ?_
    refine v_ild1 dX8_blockIn_11 ?_
    refine v_aald14 dX8_blockIn_12 (by first | rfl | exact lay_door (by omega) | exact lay_dt (by omega) | exact lay_da (by omega) | exact lay_sh (by omega) | exact lay_se (by omega)) (by omega) (ix_R (by decide) h4) (Pc_s (ix_R (by decide) h4).2.1) ?_
    refine v_V0 (c_fitD hs9) lk_X8_133 dX8_blockIn_13 (by decide) (Nat.le_of_ble_eq_true rfl) (by first | rfl | exact lay_door (by omega) | exact lay_dt (by omega) | exact lay_da (by omega) | exact lay_sh (by omega) | exact lay_se (by omega)) (show _ < 78 + 3 * _ by omega) ?_
    refine v_goto (tgt := 20) dX8_blockIn_16 (by decide) ?_
    refine v_ist2 dX8_blockIn_20 rfl ?_
    refine v_ild2 dX8_blockIn_21 ?_
    refine v_ifeq_o (skD_lt _ _) (tgt := 31) dX8_blockIn_22 (by decide) (fun h22 => ?_) (fun h22 => ?_)
    · refine v_ald0 dX8_blockIn_31 ?_
      refine v_ald0 dX8_blockIn_32 ?_
      refine v_getP (q := 1) dX8_blockIn_33 fl_X8_11 (by first | rfl | exact lay_door (by omega) | exact lay_dt (by omega) | exact lay_da (by omega) | exact lay_sh (by omega) | exact lay_se (by omega)) rfl (by omega) rfl ?_
      refine v_ild1 dX8_blockIn_36 ?_
      refine v_aald14 dX8_blockIn_37 (by first | rfl | exact lay_door (by omega) | exact lay_dt (by omega) | exact lay_da (by omega) | exact lay_sh (by omega) | exact lay_se (by omega)) (by omega) (ix_R (by decide) h4) (Pc_s (ix_R (by decide) h4).2.1) ?_
      refine v_getI dX8_blockIn_38 fl_X8_136 (by first | rfl | exact lay_door (by omega) | exact lay_dt (by omega) | exact lay_da (by omega) | exact lay_sh (by omega) | exact lay_se (by omega)) rfl (by omega) ?_
      refine v_V1 (c_doorAt hW (hdn h4 h22)) lk_X8_139 dX8_blockIn_41 (by decide) (Nat.le_of_ble_eq_true rfl) (by first | rfl | exact lay_door (by omega) | exact lay_dt (by omega) | exact lay_da (by omega) | exact lay_sh (by omega) | exact lay_se (by omega)) (show _ < 78 + 3 * _ by omega) ?_
      refine v_ast3 dX8_blockIn_44 rfl ?_
      have hd9 := (tn_lt rfl (by have := hW.1; omega) (hdn h4 h22)).1
      have := hW.1
      refine v_ald3 dX8_blockIn_45 ?_
      refine v_ifnonnull (tgt := 57) dX8_blockIn_46 (by decide) ?_
      refine v_ald3 dX8_blockIn_57 ?_
      refine v_getI dX8_blockIn_58 fl_X8_143 (by first | rfl | exact lay_door (by omega) | exact lay_dt (by omega) | exact lay_da (by omega) | exact lay_sh (by omega) | exact lay_se (by omega)) rfl (by omega) ?_
      exact v_retI dX8_blockIn_61 trivial (by first | (simp only [dBlk, if_pos h4, if_pos h22]; exact ⟨rfl, rfl⟩) | (simp only [dBlk, if_pos h4]; rw [h22]; exact ⟨rfl, rfl⟩) | (simp only [dBlk, if_pos h4]; rw [oRk h22, oMk h22]; exact ⟨rfl, rfl⟩))
    · refine v_ald0 dX8_blockIn_25 ?_
      refine v_ild2 dX8_blockIn_26 ?_
      refine v_V1 (by first | exact (c_X8_refuse (k := 1) (by decide) (by decide) (by decide)) | exact (c_X8_refuse (k := skD I (tn s)) (oRk h22 _) (skD_lt _ _) (Nat.one_le_iff_ne_zero.mpr h22))) lk_X8_58 dX8_blockIn_27 (by decide) (Nat.le_of_ble_eq_true rfl) (by first | rfl | exact lay_door (by omega) | exact lay_dt (by omega) | exact lay_da (by omega) | exact lay_sh (by omega) | exact lay_se (by omega)) (show _ < 78 + 3 * _ by omega) ?_
      exact v_retI dX8_blockIn_30 trivial (by first | (simp only [dBlk, if_pos h4, if_neg h22]; exact ⟨rfl, rfl⟩) | (simp only [dBlk, if_pos h4]; rw [h22]; exact ⟨rfl, rfl⟩) | (simp only [dBlk, if_pos h4]; rw [oRk h22, oMk h22]; exact ⟨rfl, rfl⟩))

def dLaw (I : Nat → Nat → Int32) (L : Nat → Nat → Int64) (s : Int32) : Nat := if inR s 8 then (if sk I (tn s) = 0 then 0 else sk I (tn s)) else 1
/-- a law that is read, the fault that it has, and the refusal that follows -/
def lwA (I : Nat → Nat → Int32) (f : Nat → Int32) (z : Nat) : Nat → Nat → Int32 := if flt f z = -1 then lwI I f z else rfs (lwI I f z) 6

set_option maxRecDepth 4000 in
theorem c_X8_law {G : GG} {dc : Nat} {I : Nat → Nat → Int32} {L : Nat → Nat → Int64} {s : Int32} (hW : Wx dc I) : Cn G yX8_law cX8_law 3 (some .int) 7 0 0 [.ref 0, .int s] (Mm dc I L) (Is (some (.int (oR (dLaw I L s) (if flt (elI L (tn s)) (tn (I (23 + 2 * tn s) 2)) = -1 then nI 1 else -6)))) (oM (dLaw I L s) dc I L (Mm dc (lwA I (elI L (tn s)) (tn (I (23 + 2 * tn s) 2))) (L)))) := by
  refine Cn.of' (by decide) (Nat.le_of_ble_eq_true rfl) rfl ?_
  refine v_ild1 dX8_law_0 ?_
  refine v_S1 c_X8_isShelf lk_X8_80 dX8_law_1 (by decide) (Nat.le_of_ble_eq_true rfl) ?_
  refine v_ifeq_b (tgt := 19) dX8_law_4 (by decide) (fun h4 => ?_) (fun h4 => ?_)
  · refine v_icm1 dX8_law_19 ?_
    refine v_ist2 dX8_law_20 rfl ?_
    refine v_ild2 dX8_law_21 ?_
    refine v_if_eq (tgt := 31) dX8_law_22 (by decide) (fun h22 => absurd h22 (by decide)) (fun h22 => ?_)
    refine v_ald0 dX8_law_25 ?_
    refine v_ild2 dX8_law_26 ?_
    refine v_V1 (by first | exact (c_X8_refuse (k := 1) (by decide) (by decide) (by decide)) | exact (c_X8_refuse (k := sk I (tn s)) (oRk h22 _) (sk_lt _ _) (Nat.one_le_iff_ne_zero.mpr h22))) lk_X8_58 dX8_law_27 (by decide) (Nat.le_of_ble_eq_true rfl) (by first | rfl | exact lay_door (by omega) | exact lay_dt (by omega) | exact lay_da (by omega) | exact lay_sh (by omega) | exact lay_se (by omega)) (show _ < 78 + 3 * _ by omega) ?_
    exact v_retI dX8_law_30 trivial (by first | (simp only [dLaw, lwA, if_neg h4, if_neg h22]; exact ⟨rfl, rfl⟩) | (simp only [dLaw, if_neg h4, if_neg h22]; rw [oRk h22, oMk h22]; exact ⟨rfl, rfl⟩))
  · have hs9 : tn s < 8 := (ix_R (by decide) h4).2.1
    refine v_ald0 dX8_law_7 ?_
    refine v_getP (q := 1) dX8_law_8 fl_X8_11 (by first | rfl | exact lay_door (by omega) | exact lay_dt (by omega) | exact lay_da (by omega) | exact lay_sh (by omega) | exact lay_se (by omega)) rfl (by omega) rfl ?_
    refine v_ild1 dX8_law_11 ?_
    refine v_aald14 dX8_law_12 (by first | rfl | exact lay_door (by omega) | exact lay_dt (by omega) | exact lay_da (by omega) | exact lay_sh (by omega) | exact lay_se (by omega)) (by omega) (ix_R (by decide) h4) (Pc_s (ix_R (by decide) h4).2.1) ?_
    refine v_V0 (c_fitR hs9) lk_X8_87 dX8_law_13 (by decide) (Nat.le_of_ble_eq_true rfl) (by first | rfl | exact lay_door (by omega) | exact lay_dt (by omega) | exact lay_da (by omega) | exact lay_sh (by omega) | exact lay_se (by omega)) (show _ < 78 + 3 * _ by omega) ?_
    refine v_goto (tgt := 20) dX8_law_16 (by decide) ?_
    refine v_ist2 dX8_law_20 rfl ?_
    refine v_ild2 dX8_law_21 ?_
    refine v_ifeq_o (sk_lt _ _) (tgt := 31) dX8_law_22 (by decide) (fun h22 => ?_) (fun h22 => ?_)
    · refine v_ald0 dX8_law_31 ?_
      refine v_getP (q := 4) dX8_law_32 fl_X8_28 (by first | rfl | exact lay_door (by omega) | exact lay_dt (by omega) | exact lay_da (by omega) | exact lay_sh (by omega) | exact lay_se (by omega)) rfl (by omega) rfl ?_
      refine v_ald0 dX8_law_35 ?_
      refine v_getP (q := 1) dX8_law_36 fl_X8_11 (by first | rfl | exact lay_door (by omega) | exact lay_dt (by omega) | exact lay_da (by omega) | exact lay_sh (by omega) | exact lay_se (by omega)) rfl (by omega) rfl ?_
      refine v_ild1 dX8_law_39 ?_
      refine v_aald14 dX8_law_40 (by first | rfl | exact lay_door (by omega) | exact lay_dt (by omega) | exact lay_da (by omega) | exact lay_sh (by omega) | exact lay_se (by omega)) (by omega) (ix_R (by decide) h4) (Pc_s (ix_R (by decide) h4).2.1) ?_
      refine v_V1 (c_X3_read hs9 (hW.sz hs9).1 (hW.sz hs9).2) lk_X8_146 dX8_law_41 (by decide) (Nat.le_of_ble_eq_true rfl) (by first | rfl | exact lay_door (by omega) | exact lay_dt (by omega) | exact lay_da (by omega) | exact lay_sh (by omega) | exact lay_se (by omega)) (show _ < 78 + 3 * _ by omega) ?_
      refine v_ifeq_b (tgt := 51) dX8_law_44 (by decide) (fun h44 => ?_) (fun h44 => ?_)
      · refine v_ald0 dX8_law_51 ?_
        refine v_bipush (v := -6) dX8_law_52 (by decide) ?_
        refine v_V1 (c_X8_refuse (k := 6) (by decide) (by decide) (by decide)) lk_X8_58 dX8_law_54 (by decide) (Nat.le_of_ble_eq_true rfl) (by first | rfl | exact lay_door (by omega) | exact lay_dt (by omega) | exact lay_da (by omega) | exact lay_sh (by omega) | exact lay_se (by omega)) (show _ < 78 + 3 * _ by omega) ?_
        exact v_retI dX8_law_57 trivial (by first | (simp only [dLaw, lwA, if_pos h4, if_pos h22, if_neg h44]; exact ⟨rfl, rfl⟩) | (simp only [dLaw, if_pos h4, if_pos h22, if_neg h44]; rw [oRk h22, oMk h22]; exact ⟨rfl, rfl⟩))
      · refine v_icN (n := 1) dX8_law_47 (by decide) ?_
        refine v_goto (tgt := 57) dX8_law_48 (by decide) ?_
        exact v_retI dX8_law_57 trivial (by first | (simp only [dLaw, lwA, if_pos h4, if_pos h22, if_pos h44]; exact ⟨rfl, rfl⟩) | (simp only [dLaw, if_pos h4, if_pos h22, if_pos h44]; rw [oRk h22, oMk h22]; exact ⟨rfl, rfl⟩))
    · refine v_ald0 dX8_law_25 ?_
      refine v_ild2 dX8_law_26 ?_
      refine v_V1 (by first | exact (c_X8_refuse (k := 1) (by decide) (by decide) (by decide)) | exact (c_X8_refuse (k := sk I (tn s)) (oRk h22 _) (sk_lt _ _) (Nat.one_le_iff_ne_zero.mpr h22))) lk_X8_58 dX8_law_27 (by decide) (Nat.le_of_ble_eq_true rfl) (by first | rfl | exact lay_door (by omega) | exact lay_dt (by omega) | exact lay_da (by omega) | exact lay_sh (by omega) | exact lay_se (by omega)) (show _ < 78 + 3 * _ by omega) ?_
      exact v_retI dX8_law_30 trivial (by first | (simp only [dLaw, lwA, if_pos h4, if_neg h22]; exact ⟨rfl, rfl⟩) | (simp only [dLaw, if_pos h4, if_neg h22]; rw [oRk h22, oMk h22]; exact ⟨rfl, rfl⟩))

set_option maxRecDepth 4000 in
theorem c_X8_fault {G : GG} {dc : Nat} {I : Nat → Nat → Int32} {L : Nat → Nat → Int64} : Cn G yX8_fault cX8_fault 1 (some .int) 0 0 0 [.ref 0] (Mm dc I L) (Is (some (.int (I 4 3))) (Mm dc I L)) := by
  refine Cn.of' (by decide) (Nat.le_of_ble_eq_true rfl) rfl ?_
  refine v_ald0 dX8_fault_0 ?_
  refine v_getP (q := 4) dX8_fault_1 fl_X8_28 (by first | rfl | exact lay_door (by omega) | exact lay_dt (by omega) | exact lay_da (by omega) | exact lay_sh (by omega) | exact lay_se (by omega)) rfl (by omega) rfl ?_
  refine v_getI dX8_fault_4 fl_X8_150 (by first | rfl | exact lay_door (by omega) | exact lay_dt (by omega) | exact lay_da (by omega) | exact lay_sh (by omega) | exact lay_se (by omega)) rfl (by omega) ?_
  exact v_retI dX8_fault_7 trivial ⟨rfl, rfl⟩

set_option maxRecDepth 4000 in
theorem c_X8_walk {G : GG} {dc : Nat} {I : Nat → Nat → Int32} {L : Nat → Nat → Int64} {b : Int32} : Cn G yX8_walk cX8_walk 2 (some .int) 1 0 0 [.ref 0, .int b] (Mm dc I L) (Is (some (.int (if inR b 6 then I 11 (tn b) else -1))) (Mm dc I L)) := by
  refine Cn.of' (by decide) (Nat.le_of_ble_eq_true rfl) rfl ?_
  refine v_ild1 dX8_walk_0 ?_
  refine v_S1 c_X8_isBlock lk_X8_54 dX8_walk_1 (by decide) (Nat.le_of_ble_eq_true rfl) ?_
  refine v_ifeq_b (tgt := 18) dX8_walk_4 (by decide) (fun h4 => ?_) (fun h4 => ?_)
  · refine v_icm1 dX8_walk_18 ?_
    exact v_retI dX8_walk_19 trivial (by simp only [if_neg h4]; exact ⟨rfl, rfl⟩)
  · refine v_ald0 dX8_walk_7 ?_
    refine v_getP (q := 8) dX8_walk_8 fl_X8_42 (by first | rfl | exact lay_door (by omega) | exact lay_dt (by omega) | exact lay_da (by omega) | exact lay_sh (by omega) | exact lay_se (by omega)) rfl (by omega) rfl ?_
    refine v_ild1 dX8_walk_11 ?_
    refine v_e0 (congrArg Value.int (ix_R (by decide) h4).1) ?_
    refine v_V1 (c_X7_numberOf (ix_R (by decide) h4).2.1) lk_X8_231 dX8_walk_12 (by decide) (Nat.le_of_ble_eq_true rfl) (by first | rfl | exact lay_door (by omega) | exact lay_dt (by omega) | exact lay_da (by omega) | exact lay_sh (by omega) | exact lay_se (by omega)) (show _ < 78 + 3 * _ by omega) ?_
    refine v_goto (tgt := 19) dX8_walk_15 (by decide) ?_
    exact v_retI dX8_walk_19 trivial (by simp only [if_pos h4]; exact ⟨rfl, rfl⟩)

set_option maxRecDepth 4000 in
theorem c_X8_bestHour {G : GG} {dc : Nat} {I : Nat → Nat → Int32} {L : Nat → Nat → Int64} {b : Int32} : Cn G yX8_bestHour cX8_bestHour 2 (some .int) 2 0 0 [.ref 0, .int b] (Mm dc I L) (Is (some (.int (if inR b 4 then nI (bsh I (tn b) 9) else -1))) (Mm dc I L)) := by
  refine Cn.of' (by decide) (Nat.le_of_ble_eq_true rfl) rfl ?_
  refine v_ild1 dX8_bestHour_0 ?_
  refine v_S1 c_X8_isLike lk_X8_62 dX8_bestHour_1 (by decide) (Nat.le_of_ble_eq_true rfl) ?_
  refine v_ifeq_b (tgt := 18) dX8_bestHour_4 (by decide) (fun h4 => ?_) (fun h4 => ?_)
  · refine v_icm1 dX8_bestHour_18 ?_
    exact v_retI dX8_bestHour_19 trivial (by simp only [if_neg h4]; exact ⟨rfl, rfl⟩)
  · refine v_ald0 dX8_bestHour_7 ?_
    refine v_getP (q := 5) dX8_bestHour_8 fl_X8_35 (by first | rfl | exact lay_door (by omega) | exact lay_dt (by omega) | exact lay_da (by omega) | exact lay_sh (by omega) | exact lay_se (by omega)) rfl (by omega) rfl ?_
    refine v_ild1 dX8_bestHour_11 ?_
    refine v_e0 (congrArg Value.int (ix_R (by decide) h4).1) ?_
    refine v_V1 (c_X0_greatest (ix_R (by decide) h4).2.1) lk_X8_218 dX8_bestHour_12 (by decide) (Nat.le_of_ble_eq_true rfl) (by first | rfl | exact lay_door (by omega) | exact lay_dt (by omega) | exact lay_da (by omega) | exact lay_sh (by omega) | exact lay_se (by omega)) (show _ < 78 + 3 * _ by omega) ?_
    refine v_goto (tgt := 19) dX8_bestHour_15 (by decide) ?_
    exact v_retI dX8_bestHour_19 trivial (by simp only [if_pos h4]; exact ⟨rfl, rfl⟩)
