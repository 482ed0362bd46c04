theorem le12 {x : Int32} {z N : Nat} (hx : x = nI z) (hz : z < 2 ^ 31) (hN : N < 2 ^ 31) (h : x ≤ nI N) : z ≤ N := by
  subst hx
  exact (nI_leI hz hN).mp h
def dTru (dc : Nat) (I : Nat → Nat → Int32) (b s : Int32) : Nat := if inR b dc then (if inR s 8 then (if sk I (tn s) = 0 then (if I 0 9 = 0 then (if I (23 + 2 * tn s) 2 ≤ nI 12 then 0 else 7) else 6) else sk I (tn s)) else 1) else 1

set_option maxRecDepth 4000 in
theorem c_X8_truth {G : GG} {dc : Nat} {I : Nat → Nat → Int32} {L : Nat → Nat → Int64} {b s : Int32} (hW : Wx dc I) : Cn G yX8_truth cX8_truth 5 (some .int) 4 0 0 [.ref 0, .int b, .int s] (Mm dc I L) (Is (some (.int (oR (dTru dc I b s) (nI (tn (I (23 + 2 * tn s) 2)))))) (oM (dTru dc I b s) dc I L (Mm dc (rf2 (u2 I (78 + 3 * tn b) 5 (nI (tn (I (23 + 2 * tn s) 2)))) (78 + 3 * tn b + 1) (tn (I (23 + 2 * tn s) 2)) (agE L (tn s))) (L)))) := by
  by_cases hb : inR b dc
  · have hd9 := (tn_lt rfl (by have := hW.1; omega) hb).1
    have hc9 := hW.1
    obtain ⟨hw0, hw1, hw5, hw8⟩ := hW.2.2.2 _ hd9
    refine Cn.of' (by decide) (Nat.le_of_ble_eq_true rfl) rfl ?_
    refine v_ald0 dX8_truth_0 ?_
    refine v_ild1 dX8_truth_1 ?_
    refine v_V1 (c_doorAt hW hb) lk_X8_139 dX8_truth_2 (by decide) (Nat.le_of_ble_eq_true rfl) (by first | rfl | exact lay_door (by omega) | exact lay_dt (by omega) | exact lay_da (by omega) | exact lay_sh (by omega) | exact lay_se (by omega)) (show _ < 78 + 3 * _ by omega) ?_
    refine v_ast3 dX8_truth_5 rfl ?_
    refine v_ald3 dX8_truth_6 ?_
    refine v_ifnull dX8_truth_7 ?_
    refine v_ild2 dX8_truth_10 ?_
    refine v_S1 c_X8_isShelf lk_X8_80 dX8_truth_11 (by decide) (Nat.le_of_ble_eq_true rfl) ?_
    refine v_ifne_b (tgt := 23) dX8_truth_14 (by decide) (fun h14 => ?_) (fun h14 => ?_)
    · have hs9 : tn s < 8 := (ix_R (by decide) h14).2.1
      refine v_ald0 dX8_truth_23 ?_
      refine v_getP (q := 1) dX8_truth_24 fl_X8_11 (by first | rfl | exact lay_door (by omega) | exact lay_dt (by omega) | exact lay_da (by omega) | exact lay_sh (by omega) | exact lay_se (by omega)) rfl (by omega) rfl ?_
      refine v_ild2 dX8_truth_27 ?_
      refine v_aald14 dX8_truth_28 (by first | rfl | exact lay_door (by omega) | exact lay_dt (by omega) | exact lay_da (by omega) | exact lay_sh (by omega) | exact lay_se (by omega)) (by omega) (ix_R (by decide) h14) (Pc_s (ix_R (by decide) h14).2.1) ?_
      refine v_V0 (c_fitR hs9) lk_X8_87 dX8_truth_29 (by decide) (Nat.le_of_ble_eq_true rfl) (by first | rfl | exact lay_door (by omega) | exact lay_dt (by omega) | exact lay_da (by omega) | exact lay_sh (by omega) | exact lay_se (by omega)) (show _ < 78 + 3 * _ by omega) ?_
      refine v_ist4 dX8_truth_32 rfl ?_
      refine v_ild4 dX8_truth_34 ?_
      refine v_ifeq_o (sk_lt _ _) (tgt := 46) dX8_truth_36 (by decide) (fun h36 => ?_) (fun h36 => ?_)
      · refine v_ald0 dX8_truth_46 ?_
        refine v_getI dX8_truth_47 fl_X8_65 (by first | rfl | exact lay_door (by omega) | exact lay_dt (by omega) | exact lay_da (by omega) | exact lay_sh (by omega) | exact lay_se (by omega)) rfl (by omega) ?_
        refine v_if_eq (tgt := 60) dX8_truth_50 (by decide) (fun h50 => ?_) (fun h50 => ?_)
        · refine v_ald0 dX8_truth_60 ?_
          refine v_getP (q := 1) dX8_truth_61 fl_X8_11 (by first | rfl | exact lay_door (by omega) | exact lay_dt (by omega) | exact lay_da (by omega) | exact lay_sh (by omega) | exact lay_se (by omega)) rfl (by omega) rfl ?_
          refine v_ild2 dX8_truth_64 ?_
          refine v_aald14 dX8_truth_65 (by first | rfl | exact lay_door (by omega) | exact lay_dt (by omega) | exact lay_da (by omega) | exact lay_sh (by omega) | exact lay_se (by omega)) (by omega) (ix_R (by decide) h14) (Pc_s (ix_R (by decide) h14).2.1) ?_
          refine v_getI dX8_truth_66 fl_X8_153 (by first | rfl | exact lay_door (by omega) | exact lay_dt (by omega) | exact lay_da (by omega) | exact lay_sh (by omega) | exact lay_se (by omega)) rfl (by omega) ?_
          refine v_bipush (v := nI 12) dX8_truth_69 (by decide) ?_
          refine v_icmp_le (tgt := 81) dX8_truth_71 (by decide) (fun h71 => ?_) (fun h71 => ?_)
          · refine v_ald3 dX8_truth_81 ?_
            refine v_ald0 dX8_truth_82 ?_
            refine v_getP (q := 1) dX8_truth_83 fl_X8_11 (by first | rfl | exact lay_door (by omega) | exact lay_dt (by omega) | exact lay_da (by omega) | exact lay_sh (by omega) | exact lay_se (by omega)) rfl (by omega) rfl ?_
            refine v_ild2 dX8_truth_86 ?_
            refine v_aald14 dX8_truth_87 (by first | rfl | exact lay_door (by omega) | exact lay_dt (by omega) | exact lay_da (by omega) | exact lay_sh (by omega) | exact lay_se (by omega)) (by omega) (ix_R (by decide) h14) (Pc_s (ix_R (by decide) h14).2.1) ?_
            refine v_V1 (c_X1_learnTruth hd9 hc9 hs9 (hW.sz hs9).1 (le12 (hW.sz hs9).1 (by have := (hW.sz hs9).2; omega) (by decide) h71)) lk_X8_156 dX8_truth_88 (by decide) (Nat.le_of_ble_eq_true rfl) (by first | rfl | exact lay_door (by omega) | exact lay_dt (by omega) | exact lay_da (by omega) | exact lay_sh (by omega) | exact lay_se (by omega)) (show _ < 78 + 3 * _ by omega) ?_
            exact v_retI dX8_truth_91 trivial (by first | (simp only [dTru, if_pos hb, if_pos h14, if_pos h36, if_pos h50, if_pos h71]; exact ⟨rfl, rfl⟩) | (simp only [dTru, if_pos hb, if_pos h14, if_pos h36, if_pos h50, if_pos h71]; rw [oRk h36, oMk h36]; exact ⟨rfl, rfl⟩))
          · refine v_ald0 dX8_truth_74 ?_
            refine v_bipush (v := -7) dX8_truth_75 (by decide) ?_
            refine v_V1 (c_X8_refuse (k := 7) (by decide) (by decide) (by decide)) lk_X8_58 dX8_truth_77 (by decide) (Nat.le_of_ble_eq_true rfl) (by first | rfl | exact lay_door (by omega) | exact lay_dt (by omega) | exact lay_da (by omega) | exact lay_sh (by omega) | exact lay_se (by omega)) (show _ < 78 + 3 * _ by omega) ?_
            exact v_retI dX8_truth_80 trivial (by first | (simp only [dTru, if_pos hb, if_pos h14, if_pos h36, if_pos h50, if_neg h71]; exact ⟨rfl, rfl⟩) | (simp only [dTru, if_pos hb, if_pos h14, if_pos h36, if_pos h50, if_neg h71]; rw [oRk h36, oMk h36]; exact ⟨rfl, rfl⟩))
        · refine v_ald0 dX8_truth_53 ?_
          refine v_bipush (v := -6) dX8_truth_54 (by decide) ?_
          refine v_V1 (c_X8_refuse (k := 6) (by decide) (by decide) (by decide)) lk_X8_58 dX8_truth_56 (by decide) (Nat.le_of_ble_eq_true rfl) (by first | rfl | exact lay_door (by omega) | exact lay_dt (by omega) | exact lay_da (by omega) | exact lay_sh (by omega) | exact lay_se (by omega)) (show _ < 78 + 3 * _ by omega) ?_
          exact v_retI dX8_truth_59 trivial (by first | (simp only [dTru, if_pos hb, if_pos h14, if_pos h36, if_neg h50]; exact ⟨rfl, rfl⟩) | (simp only [dTru, if_pos hb, if_pos h14, if_pos h36, if_neg h50]; rw [oRk h36, oMk h36]; exact ⟨rfl, rfl⟩))
      · refine v_ald0 dX8_truth_39 ?_
        refine v_ild4 dX8_truth_40 ?_
        refine v_V1 (by first | exact (c_X8_refuse (k := 1) (by decide) (by decide) (by decide)) | exact (c_X8_refuse (k := sk I (tn s)) (oRk h36 _) (sk_lt _ _) (Nat.one_le_iff_ne_zero.mpr h36))) lk_X8_58 dX8_truth_42 (by decide) (Nat.le_of_ble_eq_true rfl) (by first | rfl | exact lay_door (by omega) | exact lay_dt (by omega) | exact lay_da (by omega) | exact lay_sh (by omega) | exact lay_se (by omega)) (show _ < 78 + 3 * _ by omega) ?_
        exact v_retI dX8_truth_45 trivial (by first | (simp only [dTru, if_pos hb, if_pos h14, if_neg h36]; exact ⟨rfl, rfl⟩) | (simp only [dTru, if_pos hb, if_pos h14, if_neg h36]; rw [oRk h36, oMk h36]; exact ⟨rfl, rfl⟩))
    · refine v_ald0 dX8_truth_17 ?_
      refine v_icm1 dX8_truth_18 ?_
      refine v_V1 (c_X8_refuse (k := 1) (by decide) (by decide) (by decide)) lk_X8_58 dX8_truth_19 (by decide) (Nat.le_of_ble_eq_true rfl) (by first | rfl | exact lay_door (by omega) | exact lay_dt (by omega) | exact lay_da (by omega) | exact lay_sh (by omega) | exact lay_se (by omega)) (show _ < 78 + 3 * _ by omega) ?_
      exact v_retI dX8_truth_22 trivial (by first | (simp only [dTru, if_pos hb, if_neg h14]; exact ⟨rfl, rfl⟩) | (simp only [dTru, if_pos hb, if_neg h14]; rw [oRk h36, oMk h36]; exact ⟨rfl, rfl⟩))
  · refine Cn.of' (by decide) (Nat.le_of_ble_eq_true rfl) rfl ?_
    refine v_ald0 dX8_truth_0 ?_
    refine v_ild1 dX8_truth_1 ?_
    refine v_V1 (c_doorAtN hW hb) lk_X8_139 dX8_truth_2 (by decide) (Nat.le_of_ble_eq_true rfl) (by first | rfl | exact lay_door (by omega) | exact lay_dt (by omega) | exact lay_da (by omega) | exact lay_sh (by omega) | exact lay_se (by omega)) (show _ < 78 + 3 * _ by omega) ?_
    refine v_ast3N dX8_truth_5 rfl ?_
    refine v_ald3N dX8_truth_6 ?_
    refine v_ifnullN (tgt := 17) dX8_truth_7 (by decide) ?_
    refine v_ald0 dX8_truth_17 ?_
    refine v_icm1 dX8_truth_18 ?_
    refine v_V1 (c_X8_refuse (k := 1) (by decide) (by decide) (by decide)) lk_X8_58 dX8_truth_19 (by decide) (Nat.le_of_ble_eq_true rfl) (by first | rfl | exact lay_door (by omega) | exact lay_dt (by omega) | exact lay_da (by omega) | exact lay_sh (by omega) | exact lay_se (by omega)) (show _ < 78 + 3 * _ by omega) ?_
    exact v_retI dX8_truth_22 trivial (by first | (simp only [dTru, if_neg hb]; exact ⟨rfl, rfl⟩) | (simp only [dTru, if_neg hb]; rw [oRk h36, oMk h36]; exact ⟨rfl, rfl⟩))

def dPap (dc : Nat) (I : Nat → Nat → Int32) (b : Int32) : Nat := if inR b dc then (if I 0 9 = 0 then (if tba I (tn b) then (if I (78 + 3 * tn b) 7 = 0 then 0 else 6) else 6) else 6) else 1

set_option maxRecDepth 4000 in
theorem c_X8_paper {G : GG} {dc : Nat} {I : Nat → Nat → Int32} {L : Nat → Nat → Int64} {b : Int32} (hW : Wx dc I) : Cn G yX8_paper cX8_paper 3 (some .int) 2 0 0 [.ref 0, .int b] (Mm dc I L) (Is (some (.int (oR (dPap dc I b) (nI (fzf (pT (I (78 + 3 * tn b + 1))) 0 (tn (I (78 + 3 * tn b) 5))))))) (oM (dPap dc I b) dc I L (Mm dc (tpI (sR I (tn b) (nI 1)) (tn b) (fzf (pT (I (78 + 3 * tn b + 1))) 0 (tn (I (78 + 3 * tn b) 5))) (tn (I (78 + 3 * tn b) 5))) (L)))) := by
  by_cases hb : inR b dc
  · have hd9 := (tn_lt rfl (by have := hW.1; omega) hb).1
    have hc9 := hW.1
    obtain ⟨hw0, hw1, hw5, hw8⟩ := hW.2.2.2 _ hd9
    refine Cn.of' (by decide) (Nat.le_of_ble_eq_true rfl) rfl ?_
    refine v_ald0 dX8_paper_0 ?_
    refine v_ild1 dX8_paper_1 ?_
    refine v_V1 (c_doorAt hW hb) lk_X8_139 dX8_paper_2 (by decide) (Nat.le_of_ble_eq_true rfl) (by first | rfl | exact lay_door (by omega) | exact lay_dt (by omega) | exact lay_da (by omega) | exact lay_sh (by omega) | exact lay_se (by omega)) (show _ < 78 + 3 * _ by omega) ?_
    refine v_ast2 dX8_paper_5 rfl ?_
    refine v_ald2 dX8_paper_6 ?_
    refine v_ifnonnull (tgt := 16) dX8_paper_7 (by decide) ?_
    refine v_ald0 dX8_paper_16 ?_
    refine v_getI dX8_paper_17 fl_X8_65 (by first | rfl | exact lay_door (by omega) | exact lay_dt (by omega) | exact lay_da (by omega) | exact lay_sh (by omega) | exact lay_se (by omega)) rfl (by omega) ?_
    refine v_if_ne (tgt := 37) dX8_paper_20 (by decide) (fun h20 => ?_) (fun h20 => ?_)
    · refine v_ald0 dX8_paper_37 ?_
      refine v_bipush (v := -6) dX8_paper_38 (by decide) ?_
      refine v_V1 (c_X8_refuse (k := 6) (by decide) (by decide) (by decide)) lk_X8_58 dX8_paper_40 (by decide) (Nat.le_of_ble_eq_true rfl) (by first | rfl | exact lay_door (by omega) | exact lay_dt (by omega) | exact lay_da (by omega) | exact lay_sh (by omega) | exact lay_se (by omega)) (show _ < 78 + 3 * _ by omega) ?_
      exact v_retI dX8_paper_43 trivial (by simp only [dPap, if_pos hb, if_neg h20]; exact ⟨rfl, rfl⟩)
    · refine v_ald2 dX8_paper_23 ?_
      refine v_V0 (c_X1_isToBeAsked hd9 hc9) lk_X8_160 dX8_paper_24 (by decide) (Nat.le_of_ble_eq_true rfl) (by first | rfl | exact lay_door (by omega) | exact lay_dt (by omega) | exact lay_da (by omega) | exact lay_sh (by omega) | exact lay_se (by omega)) (show _ < 78 + 3 * _ by omega) ?_
      refine v_ifeq_b (tgt := 37) dX8_paper_27 (by decide) (fun h27 => ?_) (fun h27 => ?_)
      · refine v_ald0 dX8_paper_37 ?_
        refine v_bipush (v := -6) dX8_paper_38 (by decide) ?_
        refine v_V1 (c_X8_refuse (k := 6) (by decide) (by decide) (by decide)) lk_X8_58 dX8_paper_40 (by decide) (Nat.le_of_ble_eq_true rfl) (by first | rfl | exact lay_door (by omega) | exact lay_dt (by omega) | exact lay_da (by omega) | exact lay_sh (by omega) | exact lay_se (by omega)) (show _ < 78 + 3 * _ by omega) ?_
        exact v_retI dX8_paper_43 trivial (by simp only [dPap, if_pos hb, if_pos h20, if_neg h27]; exact ⟨rfl, rfl⟩)
      · refine v_ald2 dX8_paper_30 ?_
        refine v_getI dX8_paper_31 fl_X8_163 (by first | rfl | exact lay_door (by omega) | exact lay_dt (by omega) | exact lay_da (by omega) | exact lay_sh (by omega) | exact lay_se (by omega)) rfl (by omega) ?_
        refine v_if_eq (tgt := 44) dX8_paper_34 (by decide) (fun h34 => ?_) (fun h34 => ?_)
        · refine v_ald2 dX8_paper_44 ?_
          refine v_V0 (c_X1_takePaper hd9 hc9 hw5.1 hw5.2) lk_X8_166 dX8_paper_45 (by decide) (Nat.le_of_ble_eq_true rfl) (by first | rfl | exact lay_door (by omega) | exact lay_dt (by omega) | exact lay_da (by omega) | exact lay_sh (by omega) | exact lay_se (by omega)) (show _ < 78 + 3 * _ by omega) ?_
          exact v_retI dX8_paper_48 trivial (by simp only [dPap, if_pos hb, if_pos h20, if_pos h27, if_pos h34]; exact ⟨rfl, rfl⟩)
        · refine v_ald0 dX8_paper_37 ?_
          refine v_bipush (v := -6) dX8_paper_38 (by decide) ?_
          refine v_V1 (c_X8_refuse (k := 6) (by decide) (by decide) (by decide)) lk_X8_58 dX8_paper_40 (by decide) (Nat.le_of_ble_eq_true rfl) (by first | rfl | exact lay_door (by omega) | exact lay_dt (by omega) | exact lay_da (by omega) | exact lay_sh (by omega) | exact lay_se (by omega)) (show _ < 78 + 3 * _ by omega) ?_
          exact v_retI dX8_paper_43 trivial (by simp only [dPap, if_pos hb, if_pos h20, if_pos h27, if_neg h34]; exact ⟨rfl, rfl⟩)
  · refine Cn.of' (by decide) (Nat.le_of_ble_eq_true rfl) rfl ?_
    refine v_ald0 dX8_paper_0 ?_
    refine v_ild1 dX8_paper_1 ?_
    refine v_V1 (c_doorAtN hW hb) lk_X8_139 dX8_paper_2 (by decide) (Nat.le_of_ble_eq_true rfl) (by first | rfl | exact lay_door (by omega) | exact lay_dt (by omega) | exact lay_da (by omega) | exact lay_sh (by omega) | exact lay_se (by omega)) (show _ < 78 + 3 * _ by omega) ?_
    refine v_ast2N dX8_paper_5 rfl ?_
    refine v_ald2N dX8_paper_6 ?_
    refine v_ifnonnullN dX8_paper_7 ?_
    refine v_ald0 dX8_paper_10 ?_
    refine v_icm1 dX8_paper_11 ?_
    refine v_V1 (c_X8_refuse (k := 1) (by decide) (by decide) (by decide)) lk_X8_58 dX8_paper_12 (by decide) (Nat.le_of_ble_eq_true rfl) (by first | rfl | exact lay_door (by omega) | exact lay_dt (by omega) | exact lay_da (by omega) | exact lay_sh (by omega) | exact lay_se (by omega)) (show _ < 78 + 3 * _ by omega) ?_
    exact v_retI dX8_paper_15 trivial (by simp only [dPap, if_neg hb]; exact ⟨rfl, rfl⟩)

def dKno (dc : Nat) (I : Nat → Nat → Int32) (b u : Int32) : Nat := if inR b dc then (if u < 0 then 6 else (if nI 10 ≤ u then 6 else (if I 0 9 = 0 then (if tba I (tn b) then (if I (78 + 3 * tn b) 10 < I 4 0 then 0 else 6) else 6) else 6))) else 1
theorem tkI_1 (I : Nat → Nat → Int32) (d t : Nat) (u : Int32) : tkI I d t u (78 + 3 * d) 1 = I (78 + 3 * d) 1 := by
  unfold tkI
  split
  · rw [u2_k _ _ _ _ (by decide)]
  · rw [pm_f _ _ _ _ (by decide)]
    simp [sR, u2]

set_option maxRecDepth 4000 in
theorem c_X8_knock {G : GG} {dc : Nat} {I : Nat → Nat → Int32} {L : Nat → Nat → Int64} {b u : Int32} (hW : Wx dc I) : Cn G yX8_knock cX8_knock 5 (some .int) 2 0 0 [.ref 0, .int b, .int u] (Mm dc I L) (Is (some (.int (oR (dKno dc I b u) (bI (¬ ((I (78 + 3 * tn b) 2 >>> (u &&& 31)) &&& nI 1) = 0))))) (oM (dKno dc I b u) dc I L (Mm dc (ntI (tkI I (tn b) (tn (I (78 + 3 * tn b) 5)) u) (tn (I (78 + 3 * tn b) 1) * 10 + tn u) (bI (¬ ((I (78 + 3 * tn b) 2 >>> (u &&& 31)) &&& nI 1) = 0))) (L)))) := by
  by_cases hb : inR b dc
  · have hd9 := (tn_lt rfl (by have := hW.1; omega) hb).1
    have hc9 := hW.1
    obtain ⟨hw0, hw1, hw5, hw8⟩ := hW.2.2.2 _ hd9
    refine Cn.of' (by decide) (Nat.le_of_ble_eq_true rfl) rfl ?_
    refine v_ald0 dX8_knock_0 ?_
    refine v_ild1 dX8_knock_1 ?_
    refine v_V1 (c_doorAt hW hb) lk_X8_139 dX8_knock_2 (by decide) (Nat.le_of_ble_eq_true rfl) (by first | rfl | exact lay_door (by omega) | exact lay_dt (by omega) | exact lay_da (by omega) | exact lay_sh (by omega) | exact lay_se (by omega)) (show _ < 78 + 3 * _ by omega) ?_
    refine v_ast3 dX8_knock_5 rfl ?_
    refine v_ald3 dX8_knock_6 ?_
    refine v_ifnonnull (tgt := 16) dX8_knock_7 (by decide) ?_
    refine v_ild2 dX8_knock_16 ?_
    refine v_if_lt (tgt := 40) dX8_knock_17 (by decide) (fun h17 => ?_) (fun h17 => ?_)
    · refine v_ald0 dX8_knock_40 ?_
      refine v_bipush (v := -6) dX8_knock_41 (by decide) ?_
      refine v_V1 (c_X8_refuse (k := 6) (by decide) (by decide) (by decide)) lk_X8_58 dX8_knock_43 (by decide) (Nat.le_of_ble_eq_true rfl) (by first | rfl | exact lay_door (by omega) | exact lay_dt (by omega) | exact lay_da (by omega) | exact lay_sh (by omega) | exact lay_se (by omega)) (show _ < 78 + 3 * _ by omega) ?_
      exact v_retI dX8_knock_46 trivial (by simp only [dKno, if_pos hb, if_pos h17]; exact ⟨rfl, rfl⟩)
    · refine v_ild2 dX8_knock_20 ?_
      refine v_bipush (v := nI 10) dX8_knock_21 (by decide) ?_
      refine v_icmp_ge (tgt := 40) dX8_knock_23 (by decide) (fun h23 => ?_) (fun h23 => ?_)
      · refine v_ald0 dX8_knock_40 ?_
        refine v_bipush (v := -6) dX8_knock_41 (by decide) ?_
        refine v_V1 (c_X8_refuse (k := 6) (by decide) (by decide) (by decide)) lk_X8_58 dX8_knock_43 (by decide) (Nat.le_of_ble_eq_true rfl) (by first | rfl | exact lay_door (by omega) | exact lay_dt (by omega) | exact lay_da (by omega) | exact lay_sh (by omega) | exact lay_se (by omega)) (show _ < 78 + 3 * _ by omega) ?_
        exact v_retI dX8_knock_46 trivial (by simp only [dKno, if_pos hb, if_neg h17, if_pos h23]; exact ⟨rfl, rfl⟩)
      · refine v_ald0 dX8_knock_26 ?_
        refine v_getI dX8_knock_27 fl_X8_65 (by first | rfl | exact lay_door (by omega) | exact lay_dt (by omega) | exact lay_da (by omega) | exact lay_sh (by omega) | exact lay_se (by omega)) rfl (by omega) ?_
        refine v_if_ne (tgt := 40) dX8_knock_30 (by decide) (fun h30 => ?_) (fun h30 => ?_)
        · refine v_ald0 dX8_knock_40 ?_
          refine v_bipush (v := -6) dX8_knock_41 (by decide) ?_
          refine v_V1 (c_X8_refuse (k := 6) (by decide) (by decide) (by decide)) lk_X8_58 dX8_knock_43 (by decide) (Nat.le_of_ble_eq_true rfl) (by first | rfl | exact lay_door (by omega) | exact lay_dt (by omega) | exact lay_da (by omega) | exact lay_sh (by omega) | exact lay_se (by omega)) (show _ < 78 + 3 * _ by omega) ?_
          exact v_retI dX8_knock_46 trivial (by simp only [dKno, if_pos hb, if_neg h17, if_neg h23, if_neg h30]; exact ⟨rfl, rfl⟩)
        · refine v_ald3 dX8_knock_33 ?_
          refine v_V0 (c_X1_isToBeAsked hd9 hc9) lk_X8_160 dX8_knock_34 (by decide) (Nat.le_of_ble_eq_true rfl) (by first | rfl | exact lay_door (by omega) | exact lay_dt (by omega) | exact lay_da (by omega) | exact lay_sh (by omega) | exact lay_se (by omega)) (show _ < 78 + 3 * _ by omega) ?_
          refine v_ifne_b (tgt := 47) dX8_knock_37 (by decide) (fun h37 => ?_) (fun h37 => ?_)
          · refine v_ald3 dX8_knock_47 ?_
            refine v_getI dX8_knock_48 fl_X8_169 (by first | rfl | exact lay_door (by omega) | exact lay_dt (by omega) | exact lay_da (by omega) | exact lay_sh (by omega) | exact lay_se (by omega)) rfl (by omega) ?_
            refine v_ald0 dX8_knock_51 ?_
            refine v_getP (q := 4) dX8_knock_52 fl_X8_28 (by first | rfl | exact lay_door (by omega) | exact lay_dt (by omega) | exact lay_da (by omega) | exact lay_sh (by omega) | exact lay_se (by omega)) rfl (by omega) rfl ?_
            refine v_getI dX8_knock_55 fl_X8_172 (by first | rfl | exact lay_door (by omega) | exact lay_dt (by omega) | exact lay_da (by omega) | exact lay_sh (by omega) | exact lay_se (by omega)) rfl (by omega) ?_
            refine v_icmp_lt (tgt := 68) dX8_knock_58 (by decide) (fun h58 => ?_) (fun h58 => ?_)
            · have hu9 : tn u < 10 := (ix_R (by decide) ⟨h17, h23⟩).2.1
              have hu8 : u = nI (tn u) := (ix_R (by decide) ⟨h17, h23⟩).1
              refine v_ald3 dX8_knock_68 ?_
              refine v_ild2 dX8_knock_69 ?_
              refine v_V1 (c_X1_takeKnock hd9 hc9 hw5.1 hw5.2) lk_X8_175 dX8_knock_70 (by decide) (Nat.le_of_ble_eq_true rfl) (by first | rfl | exact lay_door (by omega) | exact lay_dt (by omega) | exact lay_da (by omega) | exact lay_sh (by omega) | exact lay_se (by omega)) (show _ < 78 + 3 * _ by omega) ?_
              refine v_ist4 dX8_knock_73 rfl ?_
              refine v_ald0 dX8_knock_75 ?_
              refine v_getP (q := 5) dX8_knock_76 fl_X8_35 (by first | rfl | exact lay_door (by omega) | exact lay_dt (by omega) | exact lay_da (by omega) | exact lay_sh (by omega) | exact lay_se (by omega)) rfl (by omega) rfl ?_
              refine v_ald3 dX8_knock_79 ?_
              refine v_getI dX8_knock_80 fl_X8_178 (by first | rfl | exact lay_door (by omega) | exact lay_dt (by omega) | exact lay_da (by omega) | exact lay_sh (by omega) | exact lay_se (by omega)) rfl (by omega) ?_
              refine v_ild2 dX8_knock_83 ?_
              refine v_ild4 dX8_knock_84 ?_
              refine v_e1 (congrArg Value.int hu8) ?_
              refine v_e2 (congrArg Value.int ((tkI_1 I (tn b) _ u).trans hw1.1)) ?_
              refine v_V3n (c_X0_note (by have := hw1.2; omega) hu9) lk_X8_181 dX8_knock_86 (by decide) (Nat.le_of_ble_eq_true rfl) (by first | rfl | exact lay_door (by omega) | exact lay_dt (by omega) | exact lay_da (by omega) | exact lay_sh (by omega) | exact lay_se (by omega)) (show _ < 78 + 3 * _ by omega) ?_
              refine v_ild4 dX8_knock_89 ?_
              refine v_ifeq_b (tgt := 98) dX8_knock_91 (by decide) (fun h91 => ?_) (fun h91 => ?_)
              · refine v_icN (n := 0) dX8_knock_98 (by decide) ?_
                exact v_retI dX8_knock_99 trivial (by simp only [dKno, if_pos hb, if_neg h17, if_neg h23, if_pos h30, if_pos h37, if_pos h58]; first | (rw [bI_t h91]; exact ⟨rfl, rfl⟩) | (rw [bI_f h91]; exact ⟨rfl, rfl⟩))
              · refine v_icN (n := 1) dX8_knock_94 (by decide) ?_
                refine v_goto (tgt := 99) dX8_knock_95 (by decide) ?_
                exact v_retI dX8_knock_99 trivial (by simp only [dKno, if_pos hb, if_neg h17, if_neg h23, if_pos h30, if_pos h37, if_pos h58]; first | (rw [bI_t h91]; exact ⟨rfl, rfl⟩) | (rw [bI_f h91]; exact ⟨rfl, rfl⟩))
            · refine v_ald0 dX8_knock_61 ?_
              refine v_bipush (v := -6) dX8_knock_62 (by decide) ?_
              refine v_V1 (c_X8_refuse (k := 6) (by decide) (by decide) (by decide)) lk_X8_58 dX8_knock_64 (by decide) (Nat.le_of_ble_eq_true rfl) (by first | rfl | exact lay_door (by omega) | exact lay_dt (by omega) | exact lay_da (by omega) | exact lay_sh (by omega) | exact lay_se (by omega)) (show _ < 78 + 3 * _ by omega) ?_
              exact v_retI dX8_knock_67 trivial (by simp only [dKno, if_pos hb, if_neg h17, if_neg h23, if_pos h30, if_pos h37, if_neg h58]; exact ⟨rfl, rfl⟩)
          · refine v_ald0 dX8_knock_40 ?_
            refine v_bipush (v := -6) dX8_knock_41 (by decide) ?_
            refine v_V1 (c_X8_refuse (k := 6) (by decide) (by decide) (by decide)) lk_X8_58 dX8_knock_43 (by decide) (Nat.le_of_ble_eq_true rfl) (by first | rfl | exact lay_door (by omega) | exact lay_dt (by omega) | exact lay_da (by omega) | exact lay_sh (by omega) | exact lay_se (by omega)) (show _ < 78 + 3 * _ by omega) ?_
            exact v_retI dX8_knock_46 trivial (by simp only [dKno, if_pos hb, if_neg h17, if_neg h23, if_pos h30, if_neg h37]; exact ⟨rfl, rfl⟩)
  · refine Cn.of' (by decide) (Nat.le_of_ble_eq_true rfl) rfl ?_
    refine v_ald0 dX8_knock_0 ?_
    refine v_ild1 dX8_knock_1 ?_
    refine v_V1 (c_doorAtN hW hb) lk_X8_139 dX8_knock_2 (by decide) (Nat.le_of_ble_eq_true rfl) (by first | rfl | exact lay_door (by omega) | exact lay_dt (by omega) | exact lay_da (by omega) | exact lay_sh (by omega) | exact lay_se (by omega)) (show _ < 78 + 3 * _ by omega) ?_
    refine v_ast3N dX8_knock_5 rfl ?_
    refine v_ald3N dX8_knock_6 ?_
    refine v_ifnonnullN dX8_knock_7 ?_
    refine v_ald0 dX8_knock_10 ?_
    refine v_icm1 dX8_knock_11 ?_
    refine v_V1 (c_X8_refuse (k := 1) (by decide) (by decide) (by decide)) lk_X8_58 dX8_knock_12 (by decide) (Nat.le_of_ble_eq_true rfl) (by first | rfl | exact lay_door (by omega) | exact lay_dt (by omega) | exact lay_da (by omega) | exact lay_sh (by omega) | exact lay_se (by omega)) (show _ < 78 + 3 * _ by omega) ?_
    exact v_retI dX8_knock_15 trivial (by simp only [dKno, if_neg hb]; exact ⟨rfl, rfl⟩)

def dPro (dc : Nat) (I : Nat → Nat → Int32) (b n : Int32) : Nat := if inR b dc then (if n < 0 then 6 else (if nI 12 < n then 6 else (if I 0 9 = 0 then (if tba I (tn b) then (if I (78 + 3 * tn b) 6 = nI 3 then 6 else (if I 4 1 ≤ I (78 + 3 * tn b) 10 then 0 else 6)) else 6) else 6))) else 1
theorem in12 {n : Int32} {N : Nat} (hN : N < 2 ^ 31) (h1 : ¬ n < 0) (h2 : ¬ nI N < n) : n = nI (tn n) ∧ tn n ≤ N := by
  have h3 : ¬ nI (N + 1) ≤ n ∨ N + 1 = 2 ^ 31 := by
    by_cases h : N + 1 < 2 ^ 31
    · left
      intro q
      apply h2
      have q1 := Int32.le_iff_toInt_le.mp q
      rw [nI_toInt h] at q1
      rw [Int32.lt_iff_toInt_lt, nI_toInt hN]
      omega
    · omega
  obtain ⟨j, hj, rfl⟩ := nI_of h1
  rw [tn_nI hj]
  refine ⟨rfl, ?_⟩
  rcases h3 with h3 | h3
  · have : ¬ N + 1 ≤ j := fun q => h3 (nI_le q hj)
    omega
  · omega

set_option maxRecDepth 4000 in
theorem c_X8_proxy {G : GG} {dc : Nat} {I : Nat → Nat → Int32} {L : Nat → Nat → Int64} {b n : Int32} (hW : Wx dc I) : Cn G yX8_proxy cX8_proxy 4 (some .int) 2 0 0 [.ref 0, .int b, .int n] (Mm dc I L) (Is (some (.int (oR (dPro dc I b n) n))) (oM (dPro dc I b n) dc I L (Mm dc (pm (sR I (tn b) (nI 3)) (tn b) (fun _ => -2) (tn n)) (L)))) := by
  by_cases hb : inR b dc
  · have hd9 := (tn_lt rfl (by have := hW.1; omega) hb).1
    have hc9 := hW.1
    obtain ⟨hw0, hw1, hw5, hw8⟩ := hW.2.2.2 _ hd9
    refine Cn.of' (by decide) (Nat.le_of_ble_eq_true rfl) rfl ?_
    refine v_ald0 dX8_proxy_0 ?_
    refine v_ild1 dX8_proxy_1 ?_
    refine v_V1 (c_doorAt hW hb) lk_X8_139 dX8_proxy_2 (by decide) (Nat.le_of_ble_eq_true rfl) (by first | rfl | exact lay_door (by omega) | exact lay_dt (by omega) | exact lay_da (by omega) | exact lay_sh (by omega) | exact lay_se (by omega)) (show _ < 78 + 3 * _ by omega) ?_
    refine v_ast3 dX8_proxy_5 rfl ?_
    refine v_ald3 dX8_proxy_6 ?_
    refine v_ifnonnull (tgt := 16) dX8_proxy_7 (by decide) ?_
    refine v_ild2 dX8_proxy_16 ?_
    refine v_if_lt (tgt := 40) dX8_proxy_17 (by decide) (fun h17 => ?_) (fun h17 => ?_)
    · refine v_ald0 dX8_proxy_40 ?_
      refine v_bipush (v := -6) dX8_proxy_41 (by decide) ?_
      refine v_V1 (c_X8_refuse (k := 6) (by decide) (by decide) (by decide)) lk_X8_58 dX8_proxy_43 (by decide) (Nat.le_of_ble_eq_true rfl) (by first | rfl | exact lay_door (by omega) | exact lay_dt (by omega) | exact lay_da (by omega) | exact lay_sh (by omega) | exact lay_se (by omega)) (show _ < 78 + 3 * _ by omega) ?_
      exact v_retI dX8_proxy_46 trivial (by simp only [dPro, if_pos hb, if_pos h17]; exact ⟨rfl, rfl⟩)
    · refine v_ild2 dX8_proxy_20 ?_
      refine v_bipush (v := nI 12) dX8_proxy_21 (by decide) ?_
      refine v_icmp_gt (tgt := 40) dX8_proxy_23 (by decide) (fun h23 => ?_) (fun h23 => ?_)
      · refine v_ald0 dX8_proxy_40 ?_
        refine v_bipush (v := -6) dX8_proxy_41 (by decide) ?_
        refine v_V1 (c_X8_refuse (k := 6) (by decide) (by decide) (by decide)) lk_X8_58 dX8_proxy_43 (by decide) (Nat.le_of_ble_eq_true rfl) (by first | rfl | exact lay_door (by omega) | exact lay_dt (by omega) | exact lay_da (by omega) | exact lay_sh (by omega) | exact lay_se (by omega)) (show _ < 78 + 3 * _ by omega) ?_
        exact v_retI dX8_proxy_46 trivial (by simp only [dPro, if_pos hb, if_neg h17, if_pos h23]; exact ⟨rfl, rfl⟩)
      · refine v_ald0 dX8_proxy_26 ?_
        refine v_getI dX8_proxy_27 fl_X8_65 (by first | rfl | exact lay_door (by omega) | exact lay_dt (by omega) | exact lay_da (by omega) | exact lay_sh (by omega) | exact lay_se (by omega)) rfl (by omega) ?_
        refine v_if_ne (tgt := 40) dX8_proxy_30 (by decide) (fun h30 => ?_) (fun h30 => ?_)
        · refine v_ald0 dX8_proxy_40 ?_
          refine v_bipush (v := -6) dX8_proxy_41 (by decide) ?_
          refine v_V1 (c_X8_refuse (k := 6) (by decide) (by decide) (by decide)) lk_X8_58 dX8_proxy_43 (by decide) (Nat.le_of_ble_eq_true rfl) (by first | rfl | exact lay_door (by omega) | exact lay_dt (by omega) | exact lay_da (by omega) | exact lay_sh (by omega) | exact lay_se (by omega)) (show _ < 78 + 3 * _ by omega) ?_
          exact v_retI dX8_proxy_46 trivial (by simp only [dPro, if_pos hb, if_neg h17, if_neg h23, if_neg h30]; exact ⟨rfl, rfl⟩)
        · refine v_ald3 dX8_proxy_33 ?_
          refine v_V0 (c_X1_isToBeAsked hd9 hc9) lk_X8_160 dX8_proxy_34 (by decide) (Nat.le_of_ble_eq_true rfl) (by first | rfl | exact lay_door (by omega) | exact lay_dt (by omega) | exact lay_da (by omega) | exact lay_sh (by omega) | exact lay_se (by omega)) (show _ < 78 + 3 * _ by omega) ?_
          refine v_ifne_b (tgt := 47) dX8_proxy_37 (by decide) (fun h37 => ?_) (fun h37 => ?_)
          · refine v_ald3 dX8_proxy_47 ?_
            refine v_getI dX8_proxy_48 fl_X8_185 (by first | rfl | exact lay_door (by omega) | exact lay_dt (by omega) | exact lay_da (by omega) | exact lay_sh (by omega) | exact lay_se (by omega)) rfl (by omega) ?_
            refine v_icN (n := 3) dX8_proxy_51 (by decide) ?_
            refine v_icmp_eq (tgt := 69) dX8_proxy_52 (by decide) (fun h52 => ?_) (fun h52 => ?_)
            · refine v_ald0 dX8_proxy_69 ?_
              refine v_bipush (v := -6) dX8_proxy_70 (by decide) ?_
              refine v_V1 (c_X8_refuse (k := 6) (by decide) (by decide) (by decide)) lk_X8_58 dX8_proxy_72 (by decide) (Nat.le_of_ble_eq_true rfl) (by first | rfl | exact lay_door (by omega) | exact lay_dt (by omega) | exact lay_da (by omega) | exact lay_sh (by omega) | exact lay_se (by omega)) (show _ < 78 + 3 * _ by omega) ?_
              exact v_retI dX8_proxy_75 trivial (by simp only [dPro, if_pos hb, if_neg h17, if_neg h23, if_pos h30, if_pos h37, if_pos h52]; exact ⟨rfl, rfl⟩)
            · refine v_ald3 dX8_proxy_55 ?_
              refine v_getI dX8_proxy_56 fl_X8_169 (by first | rfl | exact lay_door (by omega) | exact lay_dt (by omega) | exact lay_da (by omega) | exact lay_sh (by omega) | exact lay_se (by omega)) rfl (by omega) ?_
              refine v_ald0 dX8_proxy_59 ?_
              refine v_getP (q := 4) dX8_proxy_60 fl_X8_28 (by first | rfl | exact lay_door (by omega) | exact lay_dt (by omega) | exact lay_da (by omega) | exact lay_sh (by omega) | exact lay_se (by omega)) rfl (by omega) rfl ?_
              refine v_getI dX8_proxy_63 fl_X8_188 (by first | rfl | exact lay_door (by omega) | exact lay_dt (by omega) | exact lay_da (by omega) | exact lay_sh (by omega) | exact lay_se (by omega)) rfl (by omega) ?_
              refine v_icmp_ge (tgt := 76) dX8_proxy_66 (by decide) (fun h66 => ?_) (fun h66 => ?_)
              · have hn9 := in12 (N := 12) (by decide) h17 h23
                refine v_ald3 dX8_proxy_76 ?_
                refine v_ild2 dX8_proxy_77 ?_
                refine v_e0 (congrArg Value.int hn9.1) ?_
                refine v_V1n (c_X1_takeProxy hd9 hc9 hn9.2) lk_X8_191 dX8_proxy_78 (by decide) (Nat.le_of_ble_eq_true rfl) (by first | rfl | exact lay_door (by omega) | exact lay_dt (by omega) | exact lay_da (by omega) | exact lay_sh (by omega) | exact lay_se (by omega)) (show _ < 78 + 3 * _ by omega) ?_
                refine v_ild2 dX8_proxy_81 ?_
                exact v_retI dX8_proxy_82 trivial (by simp only [dPro, if_pos hb, if_neg h17, if_neg h23, if_pos h30, if_pos h37, if_neg h52, if_pos h66]; exact ⟨rfl, rfl⟩)
              · refine v_ald0 dX8_proxy_69 ?_
                refine v_bipush (v := -6) dX8_proxy_70 (by decide) ?_
                refine v_V1 (c_X8_refuse (k := 6) (by decide) (by decide) (by decide)) lk_X8_58 dX8_proxy_72 (by decide) (Nat.le_of_ble_eq_true rfl) (by first | rfl | exact lay_door (by omega) | exact lay_dt (by omega) | exact lay_da (by omega) | exact lay_sh (by omega) | exact lay_se (by omega)) (show _ < 78 + 3 * _ by omega) ?_
                exact v_retI dX8_proxy_75 trivial (by simp only [dPro, if_pos hb, if_neg h17, if_neg h23, if_pos h30, if_pos h37, if_neg h52, if_neg h66]; exact ⟨rfl, rfl⟩)
          · refine v_ald0 dX8_proxy_40 ?_
            refine v_bipush (v := -6) dX8_proxy_41 (by decide) ?_
            refine v_V1 (c_X8_refuse (k := 6) (by decide) (by decide) (by decide)) lk_X8_58 dX8_proxy_43 (by decide) (Nat.le_of_ble_eq_true rfl) (by first | rfl | exact lay_door (by omega) | exact lay_dt (by omega) | exact lay_da (by omega) | exact lay_sh (by omega) | exact lay_se (by omega)) (show _ < 78 + 3 * _ by omega) ?_
            exact v_retI dX8_proxy_46 trivial (by simp only [dPro, if_pos hb, if_neg h17, if_neg h23, if_pos h30, if_neg h37]; exact ⟨rfl, rfl⟩)
  · refine Cn.of' (by decide) (Nat.le_of_ble_eq_true rfl) rfl ?_
    refine v_ald0 dX8_proxy_0 ?_
    refine v_ild1 dX8_proxy_1 ?_
    refine v_V1 (c_doorAtN hW hb) lk_X8_139 dX8_proxy_2 (by decide) (Nat.le_of_ble_eq_true rfl) (by first | rfl | exact lay_door (by omega) | exact lay_dt (by omega) | exact lay_da (by omega) | exact lay_sh (by omega) | exact lay_se (by omega)) (show _ < 78 + 3 * _ by omega) ?_
    refine v_ast3N dX8_proxy_5 rfl ?_
    refine v_ald3N dX8_proxy_6 ?_
    refine v_ifnonnullN dX8_proxy_7 ?_
    refine v_ald0 dX8_proxy_10 ?_
    refine v_icm1 dX8_proxy_11 ?_
    refine v_V1 (c_X8_refuse (k := 1) (by decide) (by decide) (by decide)) lk_X8_58 dX8_proxy_12 (by decide) (Nat.le_of_ble_eq_true rfl) (by first | rfl | exact lay_door (by omega) | exact lay_dt (by omega) | exact lay_da (by omega) | exact lay_sh (by omega) | exact lay_se (by omega)) (show _ < 78 + 3 * _ by omega) ?_
    exact v_retI dX8_proxy_15 trivial (by simp only [dPro, if_neg hb]; exact ⟨rfl, rfl⟩)

set_option maxRecDepth 4000 in
theorem c_X8_from {G : GG} {dc : Nat} {I : Nat → Nat → Int32} {L : Nat → Nat → Int64} {b : Int32} (hW : Wx dc I) : Cn G yX8_from cX8_from 3 (some .int) 2 0 0 [.ref 0, .int b] (Mm dc I L) (Is (some (.int (if inR b dc then I (78 + 3 * tn b) 12 else -1))) (Mm dc I L)) := by
  by_cases hb : inR b dc
  · have hd9 := (tn_lt rfl (by have := hW.1; omega) hb).1
    have hc9 := hW.1
    obtain ⟨hw0, hw1, hw5, hw8⟩ := hW.2.2.2 _ hd9
    refine Cn.of' (by decide) (Nat.le_of_ble_eq_true rfl) rfl ?_
    refine v_ald0 dX8_from_0 ?_
    refine v_ild1 dX8_from_1 ?_
    refine v_V1 (c_doorAt hW hb) lk_X8_139 dX8_from_2 (by decide) (Nat.le_of_ble_eq_true rfl) (by first | rfl | exact lay_door (by omega) | exact lay_dt (by omega) | exact lay_da (by omega) | exact lay_sh (by omega) | exact lay_se (by omega)) (show _ < 78 + 3 * _ by omega) ?_
    refine v_ast2 dX8_from_5 rfl ?_
    refine v_ald2 dX8_from_6 ?_
    refine v_ifnonnull (tgt := 14) dX8_from_7 (by decide) ?_
    refine v_ald2 dX8_from_14 ?_
    refine v_getI dX8_from_15 fl_X8_206 (by first | rfl | exact lay_door (by omega) | exact lay_dt (by omega) | exact lay_da (by omega) | exact lay_sh (by omega) | exact lay_se (by omega)) rfl (by omega) ?_
    exact v_retI dX8_from_18 trivial (by simp only [if_pos hb]; exact ⟨rfl, rfl⟩)
  · refine Cn.of' (by decide) (Nat.le_of_ble_eq_true rfl) rfl ?_
    refine v_ald0 dX8_from_0 ?_
    refine v_ild1 dX8_from_1 ?_
    refine v_V1 (c_doorAtN hW hb) lk_X8_139 dX8_from_2 (by decide) (Nat.le_of_ble_eq_true rfl) (by first | rfl | exact lay_door (by omega) | exact lay_dt (by omega) | exact lay_da (by omega) | exact lay_sh (by omega) | exact lay_se (by omega)) (show _ < 78 + 3 * _ by omega) ?_
    refine v_ast2N dX8_from_5 rfl ?_
    refine v_ald2N dX8_from_6 ?_
    refine v_ifnonnullN dX8_from_7 ?_
    refine v_icm1 dX8_from_10 ?_
    refine v_goto (tgt := 18) dX8_from_11 (by decide) ?_
    exact v_retI dX8_from_18 trivial (by simp only [if_neg hb]; exact ⟨rfl, rfl⟩)

set_option maxRecDepth 4000 in
theorem c_X8_about {G : GG} {dc : Nat} {I : Nat → Nat → Int32} {L : Nat → Nat → Int64} {b w : Int32} (hW : Wx dc I) : Cn G yX8_about cX8_about 4 (some .int) 2 0 0 [.ref 0, .int b, .int w] (Mm dc I L) (Is (some (.int (if inR b dc then telD I (tn b) w else -1))) (Mm dc I L)) := by
  by_cases hb : inR b dc
  · have hd9 := (tn_lt rfl (by have := hW.1; omega) hb).1
    have hc9 := hW.1
    obtain ⟨hw0, hw1, hw5, hw8⟩ := hW.2.2.2 _ hd9
    refine Cn.of' (by decide) (Nat.le_of_ble_eq_true rfl) rfl ?_
    refine v_ald0 dX8_about_0 ?_
    refine v_ild1 dX8_about_1 ?_
    refine v_V1 (c_doorAt hW hb) lk_X8_139 dX8_about_2 (by decide) (Nat.le_of_ble_eq_true rfl) (by first | rfl | exact lay_door (by omega) | exact lay_dt (by omega) | exact lay_da (by omega) | exact lay_sh (by omega) | exact lay_se (by omega)) (show _ < 78 + 3 * _ by omega) ?_
    refine v_ast3 dX8_about_5 rfl ?_
    refine v_ald3 dX8_about_6 ?_
    refine v_ifnonnull (tgt := 14) dX8_about_7 (by decide) ?_
    refine v_ald3 dX8_about_14 ?_
    refine v_ild2 dX8_about_15 ?_
    refine v_V1 (c_X1_tell hd9 hc9) lk_X8_209 dX8_about_16 (by decide) (Nat.le_of_ble_eq_true rfl) (by first | rfl | exact lay_door (by omega) | exact lay_dt (by omega) | exact lay_da (by omega) | exact lay_sh (by omega) | exact lay_se (by omega)) (show _ < 78 + 3 * _ by omega) ?_
    exact v_retI dX8_about_19 trivial (by simp only [if_pos hb]; exact ⟨rfl, rfl⟩)
  · refine Cn.of' (by decide) (Nat.le_of_ble_eq_true rfl) rfl ?_
    refine v_ald0 dX8_about_0 ?_
    refine v_ild1 dX8_about_1 ?_
    refine v_V1 (c_doorAtN hW hb) lk_X8_139 dX8_about_2 (by decide) (Nat.le_of_ble_eq_true rfl) (by first | rfl | exact lay_door (by omega) | exact lay_dt (by omega) | exact lay_da (by omega) | exact lay_sh (by omega) | exact lay_se (by omega)) (show _ < 78 + 3 * _ by omega) ?_
    refine v_ast3N dX8_about_5 rfl ?_
    refine v_ald3N dX8_about_6 ?_
    refine v_ifnonnullN dX8_about_7 ?_
    refine v_icm1 dX8_about_10 ?_
    refine v_goto (tgt := 19) dX8_about_11 (by decide) ?_
    exact v_retI dX8_about_19 trivial (by simp only [if_neg hb]; exact ⟨rfl, rfl⟩)

set_option maxRecDepth 4000 in
theorem c_X8_age {G : GG} {dc : Nat} {I : Nat → Nat → Int32} {L : Nat → Nat → Int64} {b i : Int32} (hW : Wx dc I) : Cn G yX8_age cX8_age 4 (some .int) 2 0 0 [.ref 0, .int b, .int i] (Mm dc I L) (Is (some (.int (if inR b dc then (if ¬ i < 0 ∧ ¬ I (78 + 3 * tn b) 8 ≤ i then I (78 + 3 * tn b + 2) (tn i) else -1) else -1))) (Mm dc I L)) := by
  by_cases hb : inR b dc
  · have hd9 := (tn_lt rfl (by have := hW.1; omega) hb).1
    have hc9 := hW.1
    obtain ⟨hw0, hw1, hw5, hw8⟩ := hW.2.2.2 _ hd9
    refine Cn.of' (by decide) (Nat.le_of_ble_eq_true rfl) rfl ?_
    refine v_ald0 dX8_age_0 ?_
    refine v_ild1 dX8_age_1 ?_
    refine v_V1 (c_doorAt hW hb) lk_X8_139 dX8_age_2 (by decide) (Nat.le_of_ble_eq_true rfl) (by first | rfl | exact lay_door (by omega) | exact lay_dt (by omega) | exact lay_da (by omega) | exact lay_sh (by omega) | exact lay_se (by omega)) (show _ < 78 + 3 * _ by omega) ?_
    refine v_ast3 dX8_age_5 rfl ?_
    refine v_ald3 dX8_age_6 ?_
    refine v_ifnull dX8_age_7 ?_
    refine v_ald3 dX8_age_10 ?_
    refine v_ild2 dX8_age_11 ?_
    refine v_V1 (c_X1_hasHead hd9 hc9) lk_X8_194 dX8_age_12 (by decide) (Nat.le_of_ble_eq_true rfl) (by first | rfl | exact lay_door (by omega) | exact lay_dt (by omega) | exact lay_da (by omega) | exact lay_sh (by omega) | exact lay_se (by omega)) (show _ < 78 + 3 * _ by omega) ?_
    refine v_ifne_b (tgt := 22) dX8_age_15 (by decide) (fun h15 => ?_) (fun h15 => ?_)
    · refine v_ald3 dX8_age_22 ?_
      refine v_getP dX8_age_23 fl_X8_212 (by first | rfl | exact lay_door (by omega) | exact lay_dt (by omega) | exact lay_da (by omega) | exact lay_sh (by omega) | exact lay_se (by omega)) rfl (by omega) (by first | rfl | exact Pc_d (by omega) | exact Pc_dt (by omega) | exact Pc_da (by omega) | exact Pc_s (by omega) | exact Pc_se (by omega)) ?_
      refine v_ild2 dX8_age_26 ?_
      refine v_iald dX8_age_27 (by first | rfl | exact lay_door (by omega) | exact lay_dt (by omega) | exact lay_da (by omega) | exact lay_sh (by omega) | exact lay_se (by omega)) (by omega) (ix_le hw8.1 hw8.2 (by decide) h15) ?_
      exact v_retI dX8_age_28 trivial (by simp only [if_pos hb, if_pos h15]; exact ⟨rfl, rfl⟩)
    · refine v_icm1 dX8_age_18 ?_
      refine v_goto (tgt := 28) dX8_age_19 (by decide) ?_
      exact v_retI dX8_age_28 trivial (by simp only [if_pos hb, if_neg h15]; exact ⟨rfl, rfl⟩)
  · refine Cn.of' (by decide) (Nat.le_of_ble_eq_true rfl) rfl ?_
    refine v_ald0 dX8_age_0 ?_
    refine v_ild1 dX8_age_1 ?_
    refine v_V1 (c_doorAtN hW hb) lk_X8_139 dX8_age_2 (by decide) (Nat.le_of_ble_eq_true rfl) (by first | rfl | exact lay_door (by omega) | exact lay_dt (by omega) | exact lay_da (by omega) | exact lay_sh (by omega) | exact lay_se (by omega)) (show _ < 78 + 3 * _ by omega) ?_
    refine v_ast3N dX8_age_5 rfl ?_
    refine v_ald3N dX8_age_6 ?_
    refine v_ifnullN (tgt := 18) dX8_age_7 (by decide) ?_
    refine v_icm1 dX8_age_18 ?_
    refine v_goto (tgt := 28) dX8_age_19 (by decide) ?_
    exact v_retI dX8_age_28 trivial (by simp only [if_neg hb]; exact ⟨rfl, rfl⟩)

def dTwi (dc : Nat) (I : Nat → Nat → Int32) (a i b k : Int32) : Nat := if inR a dc then (if inR b dc then (if ¬ i < 0 ∧ ¬ I (78 + 3 * tn a) 8 ≤ i then (if ¬ k < 0 ∧ ¬ I (78 + 3 * tn b) 8 ≤ k then (if a = b then 6 else (if sbit (I (78 + 3 * tn a) 9) i then 6 else (if sbit (I (78 + 3 * tn b) 9) k then 6 else (if I (78 + 3 * tn a) 6 = nI 4 then 6 else (if I (78 + 3 * tn b) 6 = nI 4 then 6 else 0))))) else 5) else 5) else 1) else 1
def twI (I : Nat → Nat → Int32) (a i b k : Int32) : Nat → Nat → Int32 := if a ≤ b then u2 I (78 + 3 * tn b) 9 (I (78 + 3 * tn b) 9 ||| (nI 1 <<< (k &&& 31))) else u2 I (78 + 3 * tn a) 9 (I (78 + 3 * tn a) 9 ||| (nI 1 <<< (i &&& 31)))

set_option maxRecDepth 4000 in
theorem c_X8_twice {G : GG} {dc : Nat} {I : Nat → Nat → Int32} {L : Nat → Nat → Int64} {a i b k : Int32} (hW : Wx dc I) : Cn G yX8_twice cX8_twice 7 (some .int) 2 0 0 [.ref 0, .int a, .int i, .int b, .int k] (Mm dc I L) (Is (some (.int (oR (dTwi dc I a i b k) (if a ≤ b then b else a)))) (oM (dTwi dc I a i b k) dc I L (Mm dc (twI I a i b k) (L)))) := by
  by_cases ha : inR a dc
  · by_cases hb : inR b dc
    · have ha9 := (tn_lt rfl (by have := hW.1; omega) ha).1
      have hd9 := (tn_lt rfl (by have := hW.1; omega) hb).1
      have hc9 := hW.1
      refine Cn.of' (by decide) (Nat.le_of_ble_eq_true rfl) rfl ?_
      refine v_ald0 dX8_twice_0 ?_
      refine v_ild1 dX8_twice_1 ?_
      refine v_V1 (c_doorAt hW ha) lk_X8_139 dX8_twice_2 (by decide) (Nat.le_of_ble_eq_true rfl) (by first | rfl | exact lay_door (by omega) | exact lay_dt (by omega) | exact lay_da (by omega) | exact lay_sh (by omega) | exact lay_se (by omega)) (show _ < 78 + 3 * _ by omega) ?_
      refine v_ast5 dX8_twice_5 rfl ?_
      refine v_ald0 dX8_twice_7 ?_
      refine v_ild3 dX8_twice_8 ?_
      refine v_V1 (c_doorAt hW hb) lk_X8_139 dX8_twice_9 (by decide) (Nat.le_of_ble_eq_true rfl) (by first | rfl | exact lay_door (by omega) | exact lay_dt (by omega) | exact lay_da (by omega) | exact lay_sh (by omega) | exact lay_se (by omega)) (show _ < 78 + 3 * _ by omega) ?_
      refine v_ast6 dX8_twice_12 rfl ?_
      refine v_ald5 dX8_twice_14 ?_
      refine v_ifnull dX8_twice_16 ?_
      refine v_ald6 dX8_twice_19 ?_
      refine v_ifnonnull (tgt := 30) dX8_twice_21 (by decide) ?_
      refine v_ald5 dX8_twice_30 ?_
      refine v_ild2 dX8_twice_32 ?_
      refine v_V1 (c_X1_hasHead ha9 hc9) lk_X8_194 dX8_twice_33 (by decide) (Nat.le_of_ble_eq_true rfl) (by first | rfl | exact lay_door (by omega) | exact lay_dt (by omega) | exact lay_da (by omega) | exact lay_sh (by omega) | exact lay_se (by omega)) (show _ < 78 + 3 * _ by omega) ?_
      refine v_ifeq_b (tgt := 49) dX8_twice_36 (by decide) (fun h36 => ?_) (fun h36 => ?_)
      · refine v_ald0 dX8_twice_49 ?_
        refine v_bipush (v := -5) dX8_twice_50 (by decide) ?_
        refine v_V1 (c_X8_refuse (k := 5) (by decide) (by decide) (by decide)) lk_X8_58 dX8_twice_52 (by decide) (Nat.le_of_ble_eq_true rfl) (by first | rfl | exact lay_door (by omega) | exact lay_dt (by omega) | exact lay_da (by omega) | exact lay_sh (by omega) | exact lay_se (by omega)) (show _ < 78 + 3 * _ by omega) ?_
        exact v_retI dX8_twice_55 trivial (by simp only [dTwi, twI, if_pos ha, if_pos hb, if_neg h36]; exact ⟨rfl, rfl⟩)
      · refine v_ald6 dX8_twice_39 ?_
        refine v_ild4 dX8_twice_41 ?_
        refine v_V1 (c_X1_hasHead hd9 hc9) lk_X8_194 dX8_twice_43 (by decide) (Nat.le_of_ble_eq_true rfl) (by first | rfl | exact lay_door (by omega) | exact lay_dt (by omega) | exact lay_da (by omega) | exact lay_sh (by omega) | exact lay_se (by omega)) (show _ < 78 + 3 * _ by omega) ?_
        refine v_ifne_b (tgt := 56) dX8_twice_46 (by decide) (fun h46 => ?_) (fun h46 => ?_)
        · refine v_ild1 dX8_twice_56 ?_
          refine v_ild3 dX8_twice_57 ?_
          refine v_icmp_eq (tgt := 80) dX8_twice_58 (by decide) (fun h58 => ?_) (fun h58 => ?_)
          · refine v_ald0 dX8_twice_80 ?_
            refine v_bipush (v := -6) dX8_twice_81 (by decide) ?_
            refine v_V1 (c_X8_refuse (k := 6) (by decide) (by decide) (by decide)) lk_X8_58 dX8_twice_83 (by decide) (Nat.le_of_ble_eq_true rfl) (by first | rfl | exact lay_door (by omega) | exact lay_dt (by omega) | exact lay_da (by omega) | exact lay_sh (by omega) | exact lay_se (by omega)) (show _ < 78 + 3 * _ by omega) ?_
            exact v_retI dX8_twice_86 trivial (by simp only [dTwi, twI, if_pos ha, if_pos hb, if_pos h36, if_pos h46, if_pos h58]; exact ⟨rfl, rfl⟩)
          · refine v_ald5 dX8_twice_61 ?_
            refine v_ild2 dX8_twice_63 ?_
            refine v_V1 (c_X1_isStruck ha9 hc9) lk_X8_197 dX8_twice_64 (by decide) (Nat.le_of_ble_eq_true rfl) (by first | rfl | exact lay_door (by omega) | exact lay_dt (by omega) | exact lay_da (by omega) | exact lay_sh (by omega) | exact lay_se (by omega)) (show _ < 78 + 3 * _ by omega) ?_
            refine v_ifne_b (tgt := 80) dX8_twice_67 (by decide) (fun h67 => ?_) (fun h67 => ?_)
            · refine v_ald0 dX8_twice_80 ?_
              refine v_bipush (v := -6) dX8_twice_81 (by decide) ?_
              refine v_V1 (c_X8_refuse (k := 6) (by decide) (by decide) (by decide)) lk_X8_58 dX8_twice_83 (by decide) (Nat.le_of_ble_eq_true rfl) (by first | rfl | exact lay_door (by omega) | exact lay_dt (by omega) | exact lay_da (by omega) | exact lay_sh (by omega) | exact lay_se (by omega)) (show _ < 78 + 3 * _ by omega) ?_
              exact v_retI dX8_twice_86 trivial (by simp only [dTwi, twI, if_pos ha, if_pos hb, if_pos h36, if_pos h46, if_neg h58, if_pos h67]; exact ⟨rfl, rfl⟩)
            · refine v_ald6 dX8_twice_70 ?_
              refine v_ild4 dX8_twice_72 ?_
              refine v_V1 (c_X1_isStruck hd9 hc9) lk_X8_197 dX8_twice_74 (by decide) (Nat.le_of_ble_eq_true rfl) (by first | rfl | exact lay_door (by omega) | exact lay_dt (by omega) | exact lay_da (by omega) | exact lay_sh (by omega) | exact lay_se (by omega)) (show _ < 78 + 3 * _ by omega) ?_
              refine v_ifeq_b (tgt := 87) dX8_twice_77 (by decide) (fun h77 => ?_) (fun h77 => ?_)
              · refine v_ald5 dX8_twice_87 ?_
                refine v_getI dX8_twice_89 fl_X8_185 (by first | rfl | exact lay_door (by omega) | exact lay_dt (by omega) | exact lay_da (by omega) | exact lay_sh (by omega) | exact lay_se (by omega)) rfl (by omega) ?_
                refine v_icN (n := 4) dX8_twice_92 (by decide) ?_
                refine v_icmp_eq (tgt := 105) dX8_twice_93 (by decide) (fun h93 => ?_) (fun h93 => ?_)
                · refine v_ald0 dX8_twice_105 ?_
                  refine v_bipush (v := -6) dX8_twice_106 (by decide) ?_
                  refine v_V1 (c_X8_refuse (k := 6) (by decide) (by decide) (by decide)) lk_X8_58 dX8_twice_108 (by decide) (Nat.le_of_ble_eq_true rfl) (by first | rfl | exact lay_door (by omega) | exact lay_dt (by omega) | exact lay_da (by omega) | exact lay_sh (by omega) | exact lay_se (by omega)) (show _ < 78 + 3 * _ by omega) ?_
                  exact v_retI dX8_twice_111 trivial (by simp only [dTwi, twI, if_pos ha, if_pos hb, if_pos h36, if_pos h46, if_neg h58, if_neg h67, if_neg h77, if_pos h93]; exact ⟨rfl, rfl⟩)
                · refine v_ald6 dX8_twice_96 ?_
                  refine v_getI dX8_twice_98 fl_X8_185 (by first | rfl | exact lay_door (by omega) | exact lay_dt (by omega) | exact lay_da (by omega) | exact lay_sh (by omega) | exact lay_se (by omega)) rfl (by omega) ?_
                  refine v_icN (n := 4) dX8_twice_101 (by decide) ?_
                  refine v_icmp_ne (tgt := 112) dX8_twice_102 (by decide) (fun h102 => ?_) (fun h102 => ?_)
                  · refine v_ild1 dX8_twice_112 ?_
                    refine v_ild3 dX8_twice_113 ?_
                    refine v_icmp_le (tgt := 125) dX8_twice_114 (by decide) (fun h114 => ?_) (fun h114 => ?_)
                    · refine v_ald6 dX8_twice_125 ?_
                      refine v_ild4 dX8_twice_127 ?_
                      refine v_V1n (c_X1_strike hd9 hc9) lk_X8_200 dX8_twice_129 (by decide) (Nat.le_of_ble_eq_true rfl) (by first | rfl | exact lay_door (by omega) | exact lay_dt (by omega) | exact lay_da (by omega) | exact lay_sh (by omega) | exact lay_se (by omega)) (show _ < 78 + 3 * _ by omega) ?_
                      refine v_ild3 dX8_twice_132 ?_
                      exact v_retI dX8_twice_133 trivial (by simp only [dTwi, twI, if_pos ha, if_pos hb, if_pos h36, if_pos h46, if_neg h58, if_neg h67, if_neg h77, if_neg h93, if_neg h102, if_pos h114]; exact ⟨rfl, rfl⟩)
                    · refine v_ald5 dX8_twice_117 ?_
                      refine v_ild2 dX8_twice_119 ?_
                      refine v_V1n (c_X1_strike ha9 hc9) lk_X8_200 dX8_twice_120 (by decide) (Nat.le_of_ble_eq_true rfl) (by first | rfl | exact lay_door (by omega) | exact lay_dt (by omega) | exact lay_da (by omega) | exact lay_sh (by omega) | exact lay_se (by omega)) (show _ < 78 + 3 * _ by omega) ?_
                      refine v_ild1 dX8_twice_123 ?_
                      exact v_retI dX8_twice_124 trivial (by simp only [dTwi, twI, if_pos ha, if_pos hb, if_pos h36, if_pos h46, if_neg h58, if_neg h67, if_neg h77, if_neg h93, if_neg h102, if_neg h114]; exact ⟨rfl, rfl⟩)
                  · refine v_ald0 dX8_twice_105 ?_
                    refine v_bipush (v := -6) dX8_twice_106 (by decide) ?_
                    refine v_V1 (c_X8_refuse (k := 6) (by decide) (by decide) (by decide)) lk_X8_58 dX8_twice_108 (by decide) (Nat.le_of_ble_eq_true rfl) (by first | rfl | exact lay_door (by omega) | exact lay_dt (by omega) | exact lay_da (by omega) | exact lay_sh (by omega) | exact lay_se (by omega)) (show _ < 78 + 3 * _ by omega) ?_
                    exact v_retI dX8_twice_111 trivial (by simp only [dTwi, twI, if_pos ha, if_pos hb, if_pos h36, if_pos h46, if_neg h58, if_neg h67, if_neg h77, if_neg h93, if_pos h102]; exact ⟨rfl, rfl⟩)
              · refine v_ald0 dX8_twice_80 ?_
                refine v_bipush (v := -6) dX8_twice_81 (by decide) ?_
                refine v_V1 (c_X8_refuse (k := 6) (by decide) (by decide) (by decide)) lk_X8_58 dX8_twice_83 (by decide) (Nat.le_of_ble_eq_true rfl) (by first | rfl | exact lay_door (by omega) | exact lay_dt (by omega) | exact lay_da (by omega) | exact lay_sh (by omega) | exact lay_se (by omega)) (show _ < 78 + 3 * _ by omega) ?_
                exact v_retI dX8_twice_86 trivial (by simp only [dTwi, twI, if_pos ha, if_pos hb, if_pos h36, if_pos h46, if_neg h58, if_neg h67, if_pos h77]; exact ⟨rfl, rfl⟩)
        · refine v_ald0 dX8_twice_49 ?_
          refine v_bipush (v := -5) dX8_twice_50 (by decide) ?_
          refine v_V1 (c_X8_refuse (k := 5) (by decide) (by decide) (by decide)) lk_X8_58 dX8_twice_52 (by decide) (Nat.le_of_ble_eq_true rfl) (by first | rfl | exact lay_door (by omega) | exact lay_dt (by omega) | exact lay_da (by omega) | exact lay_sh (by omega) | exact lay_se (by omega)) (show _ < 78 + 3 * _ by omega) ?_
          exact v_retI dX8_twice_55 trivial (by simp only [dTwi, twI, if_pos ha, if_pos hb, if_pos h36, if_neg h46]; exact ⟨rfl, rfl⟩)
    · refine Cn.of' (by decide) (Nat.le_of_ble_eq_true rfl) rfl ?_
      refine v_ald0 dX8_twice_0 ?_
      refine v_ild1 dX8_twice_1 ?_
      refine v_V1 (c_doorAt hW ha) lk_X8_139 dX8_twice_2 (by decide) (Nat.le_of_ble_eq_true rfl) (by first | rfl | exact lay_door (by omega) | exact lay_dt (by omega) | exact lay_da (by omega) | exact lay_sh (by omega) | exact lay_se (by omega)) (show _ < 78 + 3 * _ by omega) ?_
      refine v_ast5 dX8_twice_5 rfl ?_
      refine v_ald0 dX8_twice_7 ?_
      refine v_ild3 dX8_twice_8 ?_
      refine v_V1 (c_doorAtN hW hb) lk_X8_139 dX8_twice_9 (by decide) (Nat.le_of_ble_eq_true rfl) (by first | rfl | exact lay_door (by omega) | exact lay_dt (by omega) | exact lay_da (by omega) | exact lay_sh (by omega) | exact lay_se (by omega)) (show _ < 78 + 3 * _ by omega) ?_
      refine v_ast6N dX8_twice_12 rfl ?_
      refine v_ald5 dX8_twice_14 ?_
      refine v_ifnull dX8_twice_16 ?_
      refine v_ald6N dX8_twice_19 ?_
      refine v_ifnonnullN dX8_twice_21 ?_
      refine v_ald0 dX8_twice_24 ?_
      refine v_icm1 dX8_twice_25 ?_
      refine v_V1 (c_X8_refuse (k := 1) (by decide) (by decide) (by decide)) lk_X8_58 dX8_twice_26 (by decide) (Nat.le_of_ble_eq_true rfl) (by first | rfl | exact lay_door (by omega) | exact lay_dt (by omega) | exact lay_da (by omega) | exact lay_sh (by omega) | exact lay_se (by omega)) (show _ < 78 + 3 * _ by omega) ?_
      exact v_retI dX8_twice_29 trivial (by simp only [dTwi, twI, if_pos ha, if_neg hb]; exact ⟨rfl, rfl⟩)
  · by_cases hb : inR b dc
    · refine Cn.of' (by decide) (Nat.le_of_ble_eq_true rfl) rfl ?_
      refine v_ald0 dX8_twice_0 ?_
      refine v_ild1 dX8_twice_1 ?_
      refine v_V1 (c_doorAtN hW ha) lk_X8_139 dX8_twice_2 (by decide) (Nat.le_of_ble_eq_true rfl) (by first | rfl | exact lay_door (by omega) | exact lay_dt (by omega) | exact lay_da (by omega) | exact lay_sh (by omega) | exact lay_se (by omega)) (show _ < 78 + 3 * _ by omega) ?_
      refine v_ast5N dX8_twice_5 rfl ?_
      refine v_ald0 dX8_twice_7 ?_
      refine v_ild3 dX8_twice_8 ?_
      refine v_V1 (c_doorAt hW hb) lk_X8_139 dX8_twice_9 (by decide) (Nat.le_of_ble_eq_true rfl) (by first | rfl | exact lay_door (by omega) | exact lay_dt (by omega) | exact lay_da (by omega) | exact lay_sh (by omega) | exact lay_se (by omega)) (show _ < 78 + 3 * _ by omega) ?_
      refine v_ast6 dX8_twice_12 rfl ?_
      refine v_ald5N dX8_twice_14 ?_
      refine v_ifnullN (tgt := 24) dX8_twice_16 (by decide) ?_
      refine v_ald0 dX8_twice_24 ?_
      refine v_icm1 dX8_twice_25 ?_
      refine v_V1 (c_X8_refuse (k := 1) (by decide) (by decide) (by decide)) lk_X8_58 dX8_twice_26 (by decide) (Nat.le_of_ble_eq_true rfl) (by first | rfl | exact lay_door (by omega) | exact lay_dt (by omega) | exact lay_da (by omega) | exact lay_sh (by omega) | exact lay_se (by omega)) (show _ < 78 + 3 * _ by omega) ?_
      exact v_retI dX8_twice_29 trivial (by simp only [dTwi, twI, if_neg ha]; exact ⟨rfl, rfl⟩)
    · refine Cn.of' (by decide) (Nat.le_of_ble_eq_true rfl) rfl ?_
      refine v_ald0 dX8_twice_0 ?_
      refine v_ild1 dX8_twice_1 ?_
      refine v_V1 (c_doorAtN hW ha) lk_X8_139 dX8_twice_2 (by decide) (Nat.le_of_ble_eq_true rfl) (by first | rfl | exact lay_door (by omega) | exact lay_dt (by omega) | exact lay_da (by omega) | exact lay_sh (by omega) | exact lay_se (by omega)) (show _ < 78 + 3 * _ by omega) ?_
      refine v_ast5N dX8_twice_5 rfl ?_
      refine v_ald0 dX8_twice_7 ?_
      refine v_ild3 dX8_twice_8 ?_
      refine v_V1 (c_doorAtN hW hb) lk_X8_139 dX8_twice_9 (by decide) (Nat.le_of_ble_eq_true rfl) (by first | rfl | exact lay_door (by omega) | exact lay_dt (by omega) | exact lay_da (by omega) | exact lay_sh (by omega) | exact lay_se (by omega)) (show _ < 78 + 3 * _ by omega) ?_
      refine v_ast6N dX8_twice_12 rfl ?_
      refine v_ald5N dX8_twice_14 ?_
      refine v_ifnullN (tgt := 24) dX8_twice_16 (by decide) ?_
      refine v_ald0 dX8_twice_24 ?_
      refine v_icm1 dX8_twice_25 ?_
      refine v_V1 (c_X8_refuse (k := 1) (by decide) (by decide) (by decide)) lk_X8_58 dX8_twice_26 (by decide) (Nat.le_of_ble_eq_true rfl) (by first | rfl | exact lay_door (by omega) | exact lay_dt (by omega) | exact lay_da (by omega) | exact lay_sh (by omega) | exact lay_se (by omega)) (show _ < 78 + 3 * _ by omega) ?_
      exact v_retI dX8_twice_29 trivial (by simp only [dTwi, twI, if_neg ha]; exact ⟨rfl, rfl⟩)
