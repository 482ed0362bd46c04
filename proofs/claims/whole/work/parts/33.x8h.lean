def stX (dc : Nat) (I : Nat → Nat → Int32) (w : Int32) : Int32 :=
  if w = nI 0 then I 0 7 else if w = nI 1 then I 0 7 - nI (ct (pWith I (nI 0)) dc) else if w = nI 2 then nI (ct (pWith I (nI 4)) dc) else if w = nI 3 then sI (fCnt I) dc else if w = nI 4 then sI (fStr I) dc else if w = nI 5 then I 5 2 else if w = nI 6 then I 5 3 else if w = nI 7 then bI (¬ I 0 9 = 0) else if w = nI 8 then nI (ct (pAsk I) dc) else if w = nI 9 then bc32 (I 0 8) else if w = nI 18 then I 4 0 else if w = nI 19 then I 4 1 else if w = nI 20 then I 4 2 else if ¬ w < nI 11 ∧ ¬ nI 17 < w then I 3 (tn (w - nI 10)) else -1
theorem stX_d {dc : Nat} {I : Nat → Nat → Int32} {w : Int32} (h : ∀ j, j < 21 → (j < 10 ∨ 17 < j) → ¬ w = nI j) : stX dc I w = if ¬ w < nI 11 ∧ ¬ nI 17 < w then I 3 (tn (w - nI 10)) else -1 := by
  unfold stX
  rw [if_neg (h 0 (by decide) (by decide)), if_neg (h 1 (by decide) (by decide)), if_neg (h 2 (by decide) (by decide)), if_neg (h 3 (by decide) (by decide)), if_neg (h 4 (by decide) (by decide)), if_neg (h 5 (by decide) (by decide)), if_neg (h 6 (by decide) (by decide)), if_neg (h 7 (by decide) (by decide)), if_neg (h 8 (by decide) (by decide)), if_neg (h 9 (by decide) (by decide)), if_neg (h 18 (by decide) (by decide)), if_neg (h 19 (by decide) (by decide)), if_neg (h 20 (by decide) (by decide))]
theorem in11 {w : Int32} (h1 : ¬ w < nI 11) (h2 : ¬ nI 17 < w) : ix (w - nI 10) 8 (tn (w - nI 10)) := by
  have h0 : ¬ w < 0 := fun q => h1 (Int32.lt_trans q (by decide))
  obtain ⟨h3, h4⟩ := in12 (N := 17) (by decide) h0 h2
  have h5 : 11 ≤ tn w := Nat.le_of_not_lt fun q => h1 (by rw [h3]; exact nI_lt q (by decide))
  rw [h3, pk_sub (by omega), tn_nI (by omega)]
  exact ⟨rfl, by omega, by decide⟩

set_option maxRecDepth 4000 in
theorem st_def {G : GG} {dc : Nat} {I : Nat → Nat → Int32} {L : Nat → Nat → Int64} {w : Int32} (hd : ∀ j, j < 21 → (j < 10 ∨ 17 < j) → ¬ w = nI j) : V G yX8_status cX8_status 2 (some .int) 3 0 0 198 [.ref 0, .int w] [] (Mm dc I L) (Is (some (.int (stX dc I w))) (Mm dc I L)) := by
  refine v_ild1 dX8_status_198 ?_
  refine v_bipush (v := nI 11) dX8_status_199 (by decide) ?_
  refine v_icmp_lt (tgt := 222) dX8_status_201 (by decide) (fun h201 => ?_) (fun h201 => ?_)
  · refine v_icm1 dX8_status_222 ?_
    exact v_retI dX8_status_223 trivial (by rw [stX_d hd, if_neg (fun z => z.1 h201)]; exact ⟨rfl, rfl⟩)
  · refine v_ild1 dX8_status_204 ?_
    refine v_bipush (v := nI 17) dX8_status_205 (by decide) ?_
    refine v_icmp_gt (tgt := 222) dX8_status_207 (by decide) (fun h207 => ?_) (fun h207 => ?_)
    · refine v_icm1 dX8_status_222 ?_
      exact v_retI dX8_status_223 trivial (by rw [stX_d hd, if_neg (fun z => z.2 h207)]; exact ⟨rfl, rfl⟩)
    · refine v_ald0 dX8_status_210 ?_
      refine v_getP (q := 3) dX8_status_211 fl_X8_21 (by first | rfl | exact lay_door (by omega) | exact lay_dt (by omega) | exact lay_da (by omega) | exact lay_sh (by omega) | exact lay_se (by omega)) rfl (by omega) rfl ?_
      refine v_ild1 dX8_status_214 ?_
      refine v_bipush (v := nI 10) dX8_status_215 (by decide) ?_
      refine v_isub dX8_status_217 ?_
      refine v_iald dX8_status_218 (by first | rfl | exact lay_door (by omega) | exact lay_dt (by omega) | exact lay_da (by omega) | exact lay_sh (by omega) | exact lay_se (by omega)) (by omega) (in11 h201 h207) ?_
      refine v_goto (tgt := 223) dX8_status_219 (by decide) ?_
      exact v_retI dX8_status_223 trivial (by rw [stX_d hd, if_pos ⟨h201, h207⟩]; exact ⟨rfl, rfl⟩)

set_option maxRecDepth 4000 in
theorem c_X8_status {G : GG} {dc : Nat} {I : Nat → Nat → Int32} {L : Nat → Nat → Int64} {w : Int32} (hW : Wx dc I) : Cn G yX8_status cX8_status 2 (some .int) 3 0 0 [.ref 0, .int w] (Mm dc I L) (Is (some (.int (stX dc I w))) (Mm dc I L)) := by
  refine Cn.of' (by decide) (Nat.le_of_ble_eq_true rfl) rfl ?_
  refine v_ild1 dX8_status_0 ?_
  refine v_tab (hi := 20) (tgt := 198) [100, 105, 116, 122, 127, 132, 140, 148, 161, 166, 198, 198, 198, 198, 198, 198, 198, 198, 174, 182, 190] dX8_status_1 (by decide) (by decide) (by decide) (fun j t hj ht hx => ?_) (fun hx => st_def (fun j hj _ => hx j hj))
  rcases (show j = 0 ∨ j = 1 ∨ j = 2 ∨ j = 3 ∨ j = 4 ∨ j = 5 ∨ j = 6 ∨ j = 7 ∨ j = 8 ∨ j = 9 ∨ j = 10 ∨ j = 11 ∨ j = 12 ∨ j = 13 ∨ j = 14 ∨ j = 15 ∨ j = 16 ∨ j = 17 ∨ j = 18 ∨ j = 19 ∨ j = 20 by omega) with rfl | rfl | rfl | rfl | rfl | rfl | rfl | rfl | rfl | rfl | rfl | rfl | rfl | rfl | rfl | rfl | rfl | rfl | rfl | rfl | rfl <;> cases ht
  · refine v_ald0 dX8_status_100 ?_
    refine v_getI dX8_status_101 fl_X8_69 (by first | rfl | exact lay_door (by omega) | exact lay_dt (by omega) | exact lay_da (by omega) | exact lay_sh (by omega) | exact lay_se (by omega)) rfl (by omega) ?_
    exact v_retI dX8_status_104 trivial (by rw [hx]; exact ⟨rfl, rfl⟩)
  · refine v_ald0 dX8_status_105 ?_
    refine v_getI dX8_status_106 fl_X8_69 (by first | rfl | exact lay_door (by omega) | exact lay_dt (by omega) | exact lay_da (by omega) | exact lay_sh (by omega) | exact lay_se (by omega)) rfl (by omega) ?_
    refine v_ald0 dX8_status_109 ?_
    refine v_icN (n := 0) dX8_status_110 (by decide) ?_
    refine v_V1 (c_X8_doorsWith hW) lk_X8_287 dX8_status_111 (by decide) (Nat.le_of_ble_eq_true rfl) (by first | rfl | exact lay_door (by omega) | exact lay_dt (by omega) | exact lay_da (by omega) | exact lay_sh (by omega) | exact lay_se (by omega)) (show _ < 78 + 3 * _ by omega) ?_
    refine v_isub dX8_status_114 ?_
    exact v_retI dX8_status_115 trivial (by rw [hx]; exact ⟨rfl, rfl⟩)
  · refine v_ald0 dX8_status_116 ?_
    refine v_icN (n := 4) dX8_status_117 (by decide) ?_
    refine v_V1 (c_X8_doorsWith hW) lk_X8_287 dX8_status_118 (by decide) (Nat.le_of_ble_eq_true rfl) (by first | rfl | exact lay_door (by omega) | exact lay_dt (by omega) | exact lay_da (by omega) | exact lay_sh (by omega) | exact lay_se (by omega)) (show _ < 78 + 3 * _ by omega) ?_
    exact v_retI dX8_status_121 trivial (by rw [hx]; exact ⟨rfl, rfl⟩)
  · refine v_ald0 dX8_status_122 ?_
    refine v_V0 (c_X8_countedHeads hW) lk_X8_256 dX8_status_123 (by decide) (Nat.le_of_ble_eq_true rfl) (by first | rfl | exact lay_door (by omega) | exact lay_dt (by omega) | exact lay_da (by omega) | exact lay_sh (by omega) | exact lay_se (by omega)) (show _ < 78 + 3 * _ by omega) ?_
    exact v_retI dX8_status_126 trivial (by rw [hx]; exact ⟨rfl, rfl⟩)
  · refine v_ald0 dX8_status_127 ?_
    refine v_V0 (c_X8_struckHeads hW) lk_X8_290 dX8_status_128 (by decide) (Nat.le_of_ble_eq_true rfl) (by first | rfl | exact lay_door (by omega) | exact lay_dt (by omega) | exact lay_da (by omega) | exact lay_sh (by omega) | exact lay_se (by omega)) (show _ < 78 + 3 * _ by omega) ?_
    exact v_retI dX8_status_131 trivial (by rw [hx]; exact ⟨rfl, rfl⟩)
  · refine v_ald0 dX8_status_132 ?_
    refine v_getP (q := 5) dX8_status_133 fl_X8_35 (by first | rfl | exact lay_door (by omega) | exact lay_dt (by omega) | exact lay_da (by omega) | exact lay_sh (by omega) | exact lay_se (by omega)) rfl (by omega) rfl ?_
    refine v_getI dX8_status_136 fl_X8_293 (by first | rfl | exact lay_door (by omega) | exact lay_dt (by omega) | exact lay_da (by omega) | exact lay_sh (by omega) | exact lay_se (by omega)) rfl (by omega) ?_
    exact v_retI dX8_status_139 trivial (by rw [hx]; exact ⟨rfl, rfl⟩)
  · refine v_ald0 dX8_status_140 ?_
    refine v_getP (q := 5) dX8_status_141 fl_X8_35 (by first | rfl | exact lay_door (by omega) | exact lay_dt (by omega) | exact lay_da (by omega) | exact lay_sh (by omega) | exact lay_se (by omega)) rfl (by omega) rfl ?_
    refine v_getI dX8_status_144 fl_X8_296 (by first | rfl | exact lay_door (by omega) | exact lay_dt (by omega) | exact lay_da (by omega) | exact lay_sh (by omega) | exact lay_se (by omega)) rfl (by omega) ?_
    exact v_retI dX8_status_147 trivial (by rw [hx]; exact ⟨rfl, rfl⟩)
  · refine v_ald0 dX8_status_148 ?_
    refine v_getI dX8_status_149 fl_X8_65 (by first | rfl | exact lay_door (by omega) | exact lay_dt (by omega) | exact lay_da (by omega) | exact lay_sh (by omega) | exact lay_se (by omega)) rfl (by omega) ?_
    refine v_if_eq (tgt := 159) dX8_status_152 (by decide) (fun h152 => ?_) (fun h152 => ?_)
    · refine v_icN (n := 0) dX8_status_159 (by decide) ?_
      exact v_retI dX8_status_160 trivial (by rw [hx]; rw [show stX dc I (nI 7) = bI (¬ I 0 9 = 0) from rfl, bI_f (fun z => z h152)]; exact ⟨rfl, rfl⟩)
    · refine v_icN (n := 1) dX8_status_155 (by decide) ?_
      refine v_goto (tgt := 160) dX8_status_156 (by decide) ?_
      exact v_retI dX8_status_160 trivial (by rw [hx]; rw [show stX dc I (nI 7) = bI (¬ I 0 9 = 0) from rfl, bI_t h152]; exact ⟨rfl, rfl⟩)
  · refine v_ald0 dX8_status_161 ?_
    refine v_V0 (c_X8_doorsToBeAsked hW) lk_X8_299 dX8_status_162 (by decide) (Nat.le_of_ble_eq_true rfl) (by first | rfl | exact lay_door (by omega) | exact lay_dt (by omega) | exact lay_da (by omega) | exact lay_sh (by omega) | exact lay_se (by omega)) (show _ < 78 + 3 * _ by omega) ?_
    exact v_retI dX8_status_165 trivial (by rw [hx]; exact ⟨rfl, rfl⟩)
  · refine v_ald0 dX8_status_166 ?_
    refine v_getI dX8_status_167 fl_X8_302 (by first | rfl | exact lay_door (by omega) | exact lay_dt (by omega) | exact lay_da (by omega) | exact lay_sh (by omega) | exact lay_se (by omega)) rfl (by omega) ?_
    refine v_S1 c_J6_bitCount_0f7a4 lk_X8_305 dX8_status_170 (by decide) (Nat.le_of_ble_eq_true rfl) ?_
    exact v_retI dX8_status_173 trivial (by rw [hx]; exact ⟨rfl, rfl⟩)
  · exact st_def (fun q hq hq2 => by rw [hx]; exact nI_ne (by omega) (by decide) (by omega))
  · exact st_def (fun q hq hq2 => by rw [hx]; exact nI_ne (by omega) (by decide) (by omega))
  · exact st_def (fun q hq hq2 => by rw [hx]; exact nI_ne (by omega) (by decide) (by omega))
  · exact st_def (fun q hq hq2 => by rw [hx]; exact nI_ne (by omega) (by decide) (by omega))
  · exact st_def (fun q hq hq2 => by rw [hx]; exact nI_ne (by omega) (by decide) (by omega))
  · exact st_def (fun q hq hq2 => by rw [hx]; exact nI_ne (by omega) (by decide) (by omega))
  · exact st_def (fun q hq hq2 => by rw [hx]; exact nI_ne (by omega) (by decide) (by omega))
  · exact st_def (fun q hq hq2 => by rw [hx]; exact nI_ne (by omega) (by decide) (by omega))
  · refine v_ald0 dX8_status_174 ?_
    refine v_getP (q := 4) dX8_status_175 fl_X8_28 (by first | rfl | exact lay_door (by omega) | exact lay_dt (by omega) | exact lay_da (by omega) | exact lay_sh (by omega) | exact lay_se (by omega)) rfl (by omega) rfl ?_
    refine v_getI dX8_status_178 fl_X8_172 (by first | rfl | exact lay_door (by omega) | exact lay_dt (by omega) | exact lay_da (by omega) | exact lay_sh (by omega) | exact lay_se (by omega)) rfl (by omega) ?_
    exact v_retI dX8_status_181 trivial (by rw [hx]; exact ⟨rfl, rfl⟩)
  · refine v_ald0 dX8_status_182 ?_
    refine v_getP (q := 4) dX8_status_183 fl_X8_28 (by first | rfl | exact lay_door (by omega) | exact lay_dt (by omega) | exact lay_da (by omega) | exact lay_sh (by omega) | exact lay_se (by omega)) rfl (by omega) rfl ?_
    refine v_getI dX8_status_186 fl_X8_188 (by first | rfl | exact lay_door (by omega) | exact lay_dt (by omega) | exact lay_da (by omega) | exact lay_sh (by omega) | exact lay_se (by omega)) rfl (by omega) ?_
    exact v_retI dX8_status_189 trivial (by rw [hx]; exact ⟨rfl, rfl⟩)
  · refine v_ald0 dX8_status_190 ?_
    refine v_getP (q := 4) dX8_status_191 fl_X8_28 (by first | rfl | exact lay_door (by omega) | exact lay_dt (by omega) | exact lay_da (by omega) | exact lay_sh (by omega) | exact lay_se (by omega)) rfl (by omega) rfl ?_
    refine v_getI dX8_status_194 fl_X8_273 (by first | rfl | exact lay_door (by omega) | exact lay_dt (by omega) | exact lay_da (by omega) | exact lay_sh (by omega) | exact lay_se (by omega)) rfl (by omega) ?_
    exact v_retI dX8_status_197 trivial (by rw [hx]; exact ⟨rfl, rfl⟩)

abbrev hst (I : Nat → Nat → Int32) (s : Nat) (i k : Int32) : Prop := ¬ i < 0 ∧ ¬ k < 0 ∧ ¬ I (23 + 2 * s) 2 < k ∧ ¬ I (23 + 2 * s) 2 - k < i
def dCop (I : Nat → Nat → Int32) (p q i j n : Int32) : Nat := if inR p 8 then (if inR q 8 then (if ¬ I (23 + 2 * tn p) 3 = -1 then 2 else (if ¬ I (23 + 2 * tn q) 3 = -1 then 2 else (if ¬ I (23 + 2 * tn p) 1 = -1 then (if ¬ I (23 + 2 * tn q) 1 = -1 then (if I (23 + 2 * tn p) 1 = I (23 + 2 * tn q) 1 then (if 0 ≤ n then (if hst I (tn p) i n then (if hst I (tn q) j n then 0 else 5) else 5) else 4) else 2) else 3) else 3))) else 1) else 1
theorem hst_ix {I : Nat → Nat → Int32} {s z : Nat} {i k : Int32} (hz : I (23 + 2 * s) 2 = nI z) (hz2 : z ≤ 30) (h : hst I s i k) : i = nI (tn i) ∧ k = nI (tn k) ∧ tn i + tn k ≤ z := by
  obtain ⟨h1, h2, h3, h4⟩ := h
  rw [hz] at h3 h4
  obtain ⟨e1, e2⟩ := in12 (N := z) (by omega) h2 h3
  rw [e1, pk_sub e2] at h4
  obtain ⟨e3, e4⟩ := in12 (N := z - tn k) (by omega) h1 h4
  exact ⟨e3, e1, by omega⟩

set_option maxRecDepth 4000 in
theorem c_X8_copy {G : GG} {dc : Nat} {I : Nat → Nat → Int32} {L : Nat → Nat → Int64} {p q i j n : Int32} (hW : Wx dc I) : Cn G yX8_copy cX8_copy 8 (some .int) 2 0 0 [.ref 0, .int p, .int q, .int i, .int j, .int n] (Mm dc I L) (Is (some (.int (oR (dCop I p q i j n) (nI 1)))) (oM (dCop I p q i j n) dc I L (Mm dc (I) (cp2 L (23 + 2 * tn p + 1) (23 + 2 * tn q + 1) (tn i) (tn j) (tn n))))) := by
  refine Cn.of' (by decide) (Nat.le_of_ble_eq_true rfl) rfl ?_
  refine v_ild1 dX8_copy_0 ?_
  refine v_S1 c_X8_isShelf lk_X8_80 dX8_copy_1 (by decide) (Nat.le_of_ble_eq_true rfl) ?_
  refine v_ifeq_b (tgt := 14) dX8_copy_4 (by decide) (fun h4 => ?_) (fun h4 => ?_)
  · refine v_ald0 dX8_copy_14 ?_
    refine v_icm1 dX8_copy_15 ?_
    refine v_V1 (c_X8_refuse (k := 1) (by decide) (by decide) (by decide)) lk_X8_58 dX8_copy_16 (by decide) (Nat.le_of_ble_eq_true rfl) (by first | rfl | exact lay_door (by omega) | exact lay_dt (by omega) | exact lay_da (by omega) | exact lay_sh (by omega) | exact lay_se (by omega)) (show _ < 78 + 3 * _ by omega) ?_
    exact v_retI dX8_copy_19 trivial (by simp only [dCop, if_neg h4]; exact ⟨rfl, rfl⟩)
  · refine v_ild2 dX8_copy_7 ?_
    refine v_S1 c_X8_isShelf lk_X8_80 dX8_copy_8 (by decide) (Nat.le_of_ble_eq_true rfl) ?_
    refine v_ifne_b (tgt := 20) dX8_copy_11 (by decide) (fun h11 => ?_) (fun h11 => ?_)
    · have hsp : tn p < 8 := (ix_R (by decide) h4).2.1
      have hsq : tn q < 8 := (ix_R (by decide) h11).2.1
      refine v_ald0 dX8_copy_20 ?_
      refine v_getP (q := 1) dX8_copy_21 fl_X8_11 (by first | rfl | exact lay_door (by omega) | exact lay_dt (by omega) | exact lay_da (by omega) | exact lay_sh (by omega) | exact lay_se (by omega)) rfl (by omega) rfl ?_
      refine v_ild1 dX8_copy_24 ?_
      refine v_aald14 dX8_copy_25 (by first | rfl | exact lay_door (by omega) | exact lay_dt (by omega) | exact lay_da (by omega) | exact lay_sh (by omega) | exact lay_se (by omega)) (by omega) (ix_R (by decide) h4) (Pc_s (ix_R (by decide) h4).2.1) ?_
      refine v_ast6 dX8_copy_26 rfl ?_
      refine v_ald0 dX8_copy_28 ?_
      refine v_getP (q := 1) dX8_copy_29 fl_X8_11 (by first | rfl | exact lay_door (by omega) | exact lay_dt (by omega) | exact lay_da (by omega) | exact lay_sh (by omega) | exact lay_se (by omega)) rfl (by omega) rfl ?_
      refine v_ild2 dX8_copy_32 ?_
      refine v_aald14 dX8_copy_33 (by first | rfl | exact lay_door (by omega) | exact lay_dt (by omega) | exact lay_da (by omega) | exact lay_sh (by omega) | exact lay_se (by omega)) (by omega) (ix_R (by decide) h11) (Pc_s (ix_R (by decide) h11).2.1) ?_
      refine v_ast7 dX8_copy_34 rfl ?_
      refine v_ald6 dX8_copy_36 ?_
      refine v_V0 (c_X4_isDoor hsp) lk_X8_98 dX8_copy_38 (by decide) (Nat.le_of_ble_eq_true rfl) (by first | rfl | exact lay_door (by omega) | exact lay_dt (by omega) | exact lay_da (by omega) | exact lay_sh (by omega) | exact lay_se (by omega)) (show _ < 78 + 3 * _ by omega) ?_
      refine v_ifne_b (tgt := 52) dX8_copy_41 (by decide) (fun h41 => ?_) (fun h41 => ?_)
      · refine v_ald0 dX8_copy_52 ?_
        refine v_bipush (v := -2) dX8_copy_53 (by decide) ?_
        refine v_V1 (c_X8_refuse (k := 2) (by decide) (by decide) (by decide)) lk_X8_58 dX8_copy_55 (by decide) (Nat.le_of_ble_eq_true rfl) (by first | rfl | exact lay_door (by omega) | exact lay_dt (by omega) | exact lay_da (by omega) | exact lay_sh (by omega) | exact lay_se (by omega)) (show _ < 78 + 3 * _ by omega) ?_
        exact v_retI dX8_copy_58 trivial (by simp only [dCop, if_pos h4, if_pos h11, if_pos h41]; exact ⟨rfl, rfl⟩)
      · refine v_ald7 dX8_copy_44 ?_
        refine v_V0 (c_X4_isDoor hsq) lk_X8_98 dX8_copy_46 (by decide) (Nat.le_of_ble_eq_true rfl) (by first | rfl | exact lay_door (by omega) | exact lay_dt (by omega) | exact lay_da (by omega) | exact lay_sh (by omega) | exact lay_se (by omega)) (show _ < 78 + 3 * _ by omega) ?_
        refine v_ifeq_b (tgt := 59) dX8_copy_49 (by decide) (fun h49 => ?_) (fun h49 => ?_)
        · refine v_ald6 dX8_copy_59 ?_
          refine v_V0 (c_X4_isRow hsp) lk_X8_102 dX8_copy_61 (by decide) (Nat.le_of_ble_eq_true rfl) (by first | rfl | exact lay_door (by omega) | exact lay_dt (by omega) | exact lay_da (by omega) | exact lay_sh (by omega) | exact lay_se (by omega)) (show _ < 78 + 3 * _ by omega) ?_
          refine v_ifeq_b (tgt := 95) dX8_copy_64 (by decide) (fun h64 => ?_) (fun h64 => ?_)
          · refine v_ald6 dX8_copy_95 ?_
            refine v_V0 (c_X4_isRow hsp) lk_X8_102 dX8_copy_97 (by decide) (Nat.le_of_ble_eq_true rfl) (by first | rfl | exact lay_door (by omega) | exact lay_dt (by omega) | exact lay_da (by omega) | exact lay_sh (by omega) | exact lay_se (by omega)) (show _ < 78 + 3 * _ by omega) ?_
            refine v_ifeq_b (tgt := 111) dX8_copy_100 (by decide) (fun h100 => ?_) (fun h100 => ?_)
            · refine v_ald0 dX8_copy_111 ?_
              refine v_bipush (v := -3) dX8_copy_112 (by decide) ?_
              refine v_V1 (c_X8_refuse (k := 3) (by decide) (by decide) (by decide)) lk_X8_58 dX8_copy_114 (by decide) (Nat.le_of_ble_eq_true rfl) (by first | rfl | exact lay_door (by omega) | exact lay_dt (by omega) | exact lay_da (by omega) | exact lay_sh (by omega) | exact lay_se (by omega)) (show _ < 78 + 3 * _ by omega) ?_
              exact v_retI dX8_copy_117 trivial (by simp only [dCop, if_pos h4, if_pos h11, if_neg h41, if_neg h49, if_neg h64]; exact ⟨rfl, rfl⟩)
            · refine v_ald7 dX8_copy_103 ?_
              refine v_V0 (c_X4_isRow hsq) lk_X8_102 dX8_copy_105 (by decide) (Nat.le_of_ble_eq_true rfl) (by first | rfl | exact lay_door (by omega) | exact lay_dt (by omega) | exact lay_da (by omega) | exact lay_sh (by omega) | exact lay_se (by omega)) (show _ < 78 + 3 * _ by omega) ?_
              refine v_ifne_b (tgt := 118) dX8_copy_108 (by decide) (fun h108 => ?_) (fun h108 => ?_)
              · refine v_ild5 dX8_copy_118 ?_
                refine v_if_ge (tgt := 130) dX8_copy_120 (by decide) (fun h120 => ?_) (fun h120 => ?_)
                · refine v_ald6 dX8_copy_130 ?_
                  refine v_ild3 dX8_copy_132 ?_
                  refine v_ild5 dX8_copy_133 ?_
                  refine v_V2 (c_X4_hasStretch hsp) lk_X8_108 dX8_copy_135 (by decide) (Nat.le_of_ble_eq_true rfl) (by first | rfl | exact lay_door (by omega) | exact lay_dt (by omega) | exact lay_da (by omega) | exact lay_sh (by omega) | exact lay_se (by omega)) (show _ < 78 + 3 * _ by omega) ?_
                  refine v_ifeq_b (tgt := 153) dX8_copy_138 (by decide) (fun h138 => ?_) (fun h138 => ?_)
                  · refine v_ald0 dX8_copy_153 ?_
                    refine v_bipush (v := -5) dX8_copy_154 (by decide) ?_
                    refine v_V1 (c_X8_refuse (k := 5) (by decide) (by decide) (by decide)) lk_X8_58 dX8_copy_156 (by decide) (Nat.le_of_ble_eq_true rfl) (by first | rfl | exact lay_door (by omega) | exact lay_dt (by omega) | exact lay_da (by omega) | exact lay_sh (by omega) | exact lay_se (by omega)) (show _ < 78 + 3 * _ by omega) ?_
                    exact v_retI dX8_copy_159 trivial (absurd h100 h64)
                  · refine v_ald7 dX8_copy_141 ?_
                    refine v_ild4 dX8_copy_143 ?_
                    refine v_ild5 dX8_copy_145 ?_
                    refine v_V2 (c_X4_hasStretch hsq) lk_X8_108 dX8_copy_147 (by decide) (Nat.le_of_ble_eq_true rfl) (by first | rfl | exact lay_door (by omega) | exact lay_dt (by omega) | exact lay_da (by omega) | exact lay_sh (by omega) | exact lay_se (by omega)) (show _ < 78 + 3 * _ by omega) ?_
                    refine v_ifne_b (tgt := 160) dX8_copy_150 (by decide) (fun h150 => ?_) (fun h150 => ?_)
                    · obtain ⟨ei, en, eb⟩ := hst_ix (hW.sz hsp).1 (hW.sz hsp).2 h138
                      obtain ⟨ej, en2, eb2⟩ := hst_ix (hW.sz hsq).1 (hW.sz hsq).2 h150
                      have hz1 := (hW.sz hsp).2
                      have hz2 := (hW.sz hsq).2
                      refine v_ald6 dX8_copy_160 ?_
                      refine v_getP dX8_copy_162 fl_X8_111 (by first | rfl | exact lay_door (by omega) | exact lay_dt (by omega) | exact lay_da (by omega) | exact lay_sh (by omega) | exact lay_se (by omega)) rfl (by omega) (by first | rfl | exact Pc_d (by omega) | exact Pc_dt (by omega) | exact Pc_da (by omega) | exact Pc_s (by omega) | exact Pc_se (by omega)) ?_
                      refine v_ild3 dX8_copy_165 ?_
                      refine v_ald7 dX8_copy_166 ?_
                      refine v_getP dX8_copy_168 fl_X8_111 (by first | rfl | exact lay_door (by omega) | exact lay_dt (by omega) | exact lay_da (by omega) | exact lay_sh (by omega) | exact lay_se (by omega)) rfl (by omega) (by first | rfl | exact Pc_d (by omega) | exact Pc_dt (by omega) | exact Pc_da (by omega) | exact Pc_s (by omega) | exact Pc_se (by omega)) ?_
                      refine v_ild4 dX8_copy_171 ?_
                      refine v_ild5 dX8_copy_173 ?_
                      refine v_copyL dX8_copy_175 lj_X8_115 (by decide) (Nat.le_of_ble_eq_true rfl) (lay_se hsp) (lay_se hsq) (by omega) (by omega) ei ej en (by omega) (by omega) (by decide) (by decide) ?_
                      refine v_icN (n := 1) dX8_copy_178 (by decide) ?_
                      exact v_retI dX8_copy_179 trivial (absurd h100 h64)
                    · refine v_ald0 dX8_copy_153 ?_
                      refine v_bipush (v := -5) dX8_copy_154 (by decide) ?_
                      refine v_V1 (c_X8_refuse (k := 5) (by decide) (by decide) (by decide)) lk_X8_58 dX8_copy_156 (by decide) (Nat.le_of_ble_eq_true rfl) (by first | rfl | exact lay_door (by omega) | exact lay_dt (by omega) | exact lay_da (by omega) | exact lay_sh (by omega) | exact lay_se (by omega)) (show _ < 78 + 3 * _ by omega) ?_
                      exact v_retI dX8_copy_159 trivial (absurd h100 h64)
                · refine v_ald0 dX8_copy_123 ?_
                  refine v_bipush (v := -4) dX8_copy_124 (by decide) ?_
                  refine v_V1 (c_X8_refuse (k := 4) (by decide) (by decide) (by decide)) lk_X8_58 dX8_copy_126 (by decide) (Nat.le_of_ble_eq_true rfl) (by first | rfl | exact lay_door (by omega) | exact lay_dt (by omega) | exact lay_da (by omega) | exact lay_sh (by omega) | exact lay_se (by omega)) (show _ < 78 + 3 * _ by omega) ?_
                  exact v_retI dX8_copy_129 trivial (absurd h100 h64)
              · refine v_ald0 dX8_copy_111 ?_
                refine v_bipush (v := -3) dX8_copy_112 (by decide) ?_
                refine v_V1 (c_X8_refuse (k := 3) (by decide) (by decide) (by decide)) lk_X8_58 dX8_copy_114 (by decide) (Nat.le_of_ble_eq_true rfl) (by first | rfl | exact lay_door (by omega) | exact lay_dt (by omega) | exact lay_da (by omega) | exact lay_sh (by omega) | exact lay_se (by omega)) (show _ < 78 + 3 * _ by omega) ?_
                exact v_retI dX8_copy_117 trivial (absurd h100 h64)
          · refine v_ald7 dX8_copy_67 ?_
            refine v_V0 (c_X4_isRow hsq) lk_X8_102 dX8_copy_69 (by decide) (Nat.le_of_ble_eq_true rfl) (by first | rfl | exact lay_door (by omega) | exact lay_dt (by omega) | exact lay_da (by omega) | exact lay_sh (by omega) | exact lay_se (by omega)) (show _ < 78 + 3 * _ by omega) ?_
            refine v_ifeq_b (tgt := 95) dX8_copy_72 (by decide) (fun h72 => ?_) (fun h72 => ?_)
            · refine v_ald6 dX8_copy_95 ?_
              refine v_V0 (c_X4_isRow hsp) lk_X8_102 dX8_copy_97 (by decide) (Nat.le_of_ble_eq_true rfl) (by first | rfl | exact lay_door (by omega) | exact lay_dt (by omega) | exact lay_da (by omega) | exact lay_sh (by omega) | exact lay_se (by omega)) (show _ < 78 + 3 * _ by omega) ?_
              refine v_ifeq_b (tgt := 111) dX8_copy_100 (by decide) (fun h100 => ?_) (fun h100 => ?_)
              · refine v_ald0 dX8_copy_111 ?_
                refine v_bipush (v := -3) dX8_copy_112 (by decide) ?_
                refine v_V1 (c_X8_refuse (k := 3) (by decide) (by decide) (by decide)) lk_X8_58 dX8_copy_114 (by decide) (Nat.le_of_ble_eq_true rfl) (by first | rfl | exact lay_door (by omega) | exact lay_dt (by omega) | exact lay_da (by omega) | exact lay_sh (by omega) | exact lay_se (by omega)) (show _ < 78 + 3 * _ by omega) ?_
                exact v_retI dX8_copy_117 trivial (absurd h64 h100)
              · refine v_ald7 dX8_copy_103 ?_
                refine v_V0 (c_X4_isRow hsq) lk_X8_102 dX8_copy_105 (by decide) (Nat.le_of_ble_eq_true rfl) (by first | rfl | exact lay_door (by omega) | exact lay_dt (by omega) | exact lay_da (by omega) | exact lay_sh (by omega) | exact lay_se (by omega)) (show _ < 78 + 3 * _ by omega) ?_
                refine v_ifne_b (tgt := 118) dX8_copy_108 (by decide) (fun h108 => ?_) (fun h108 => ?_)
                · refine v_ild5 dX8_copy_118 ?_
                  refine v_if_ge (tgt := 130) dX8_copy_120 (by decide) (fun h120 => ?_) (fun h120 => ?_)
                  · refine v_ald6 dX8_copy_130 ?_
                    refine v_ild3 dX8_copy_132 ?_
                    refine v_ild5 dX8_copy_133 ?_
                    refine v_V2 (c_X4_hasStretch hsp) lk_X8_108 dX8_copy_135 (by decide) (Nat.le_of_ble_eq_true rfl) (by first | rfl | exact lay_door (by omega) | exact lay_dt (by omega) | exact lay_da (by omega) | exact lay_sh (by omega) | exact lay_se (by omega)) (show _ < 78 + 3 * _ by omega) ?_
                    refine v_ifeq_b (tgt := 153) dX8_copy_138 (by decide) (fun h138 => ?_) (fun h138 => ?_)
                    · refine v_ald0 dX8_copy_153 ?_
                      refine v_bipush (v := -5) dX8_copy_154 (by decide) ?_
                      refine v_V1 (c_X8_refuse (k := 5) (by decide) (by decide) (by decide)) lk_X8_58 dX8_copy_156 (by decide) (Nat.le_of_ble_eq_true rfl) (by first | rfl | exact lay_door (by omega) | exact lay_dt (by omega) | exact lay_da (by omega) | exact lay_sh (by omega) | exact lay_se (by omega)) (show _ < 78 + 3 * _ by omega) ?_
                      exact v_retI dX8_copy_159 trivial (absurd h108 h72)
                    · refine v_ald7 dX8_copy_141 ?_
                      refine v_ild4 dX8_copy_143 ?_
                      refine v_ild5 dX8_copy_145 ?_
                      refine v_V2 (c_X4_hasStretch hsq) lk_X8_108 dX8_copy_147 (by decide) (Nat.le_of_ble_eq_true rfl) (by first | rfl | exact lay_door (by omega) | exact lay_dt (by omega) | exact lay_da (by omega) | exact lay_sh (by omega) | exact lay_se (by omega)) (show _ < 78 + 3 * _ by omega) ?_
                      refine v_ifne_b (tgt := 160) dX8_copy_150 (by decide) (fun h150 => ?_) (fun h150 => ?_)
                      · obtain ⟨ei, en, eb⟩ := hst_ix (hW.sz hsp).1 (hW.sz hsp).2 h138
                        obtain ⟨ej, en2, eb2⟩ := hst_ix (hW.sz hsq).1 (hW.sz hsq).2 h150
                        have hz1 := (hW.sz hsp).2
                        have hz2 := (hW.sz hsq).2
                        refine v_ald6 dX8_copy_160 ?_
                        refine v_getP dX8_copy_162 fl_X8_111 (by first | rfl | exact lay_door (by omega) | exact lay_dt (by omega) | exact lay_da (by omega) | exact lay_sh (by omega) | exact lay_se (by omega)) rfl (by omega) (by first | rfl | exact Pc_d (by omega) | exact Pc_dt (by omega) | exact Pc_da (by omega) | exact Pc_s (by omega) | exact Pc_se (by omega)) ?_
                        refine v_ild3 dX8_copy_165 ?_
                        refine v_ald7 dX8_copy_166 ?_
                        refine v_getP dX8_copy_168 fl_X8_111 (by first | rfl | exact lay_door (by omega) | exact lay_dt (by omega) | exact lay_da (by omega) | exact lay_sh (by omega) | exact lay_se (by omega)) rfl (by omega) (by first | rfl | exact Pc_d (by omega) | exact Pc_dt (by omega) | exact Pc_da (by omega) | exact Pc_s (by omega) | exact Pc_se (by omega)) ?_
                        refine v_ild4 dX8_copy_171 ?_
                        refine v_ild5 dX8_copy_173 ?_
                        refine v_copyL dX8_copy_175 lj_X8_115 (by decide) (Nat.le_of_ble_eq_true rfl) (lay_se hsp) (lay_se hsq) (by omega) (by omega) ei ej en (by omega) (by omega) (by decide) (by decide) ?_
                        refine v_icN (n := 1) dX8_copy_178 (by decide) ?_
                        exact v_retI dX8_copy_179 trivial (absurd h108 h72)
                      · refine v_ald0 dX8_copy_153 ?_
                        refine v_bipush (v := -5) dX8_copy_154 (by decide) ?_
                        refine v_V1 (c_X8_refuse (k := 5) (by decide) (by decide) (by decide)) lk_X8_58 dX8_copy_156 (by decide) (Nat.le_of_ble_eq_true rfl) (by first | rfl | exact lay_door (by omega) | exact lay_dt (by omega) | exact lay_da (by omega) | exact lay_sh (by omega) | exact lay_se (by omega)) (show _ < 78 + 3 * _ by omega) ?_
                        exact v_retI dX8_copy_159 trivial (absurd h108 h72)
                  · refine v_ald0 dX8_copy_123 ?_
                    refine v_bipush (v := -4) dX8_copy_124 (by decide) ?_
                    refine v_V1 (c_X8_refuse (k := 4) (by decide) (by decide) (by decide)) lk_X8_58 dX8_copy_126 (by decide) (Nat.le_of_ble_eq_true rfl) (by first | rfl | exact lay_door (by omega) | exact lay_dt (by omega) | exact lay_da (by omega) | exact lay_sh (by omega) | exact lay_se (by omega)) (show _ < 78 + 3 * _ by omega) ?_
                    exact v_retI dX8_copy_129 trivial (absurd h108 h72)
                · refine v_ald0 dX8_copy_111 ?_
                  refine v_bipush (v := -3) dX8_copy_112 (by decide) ?_
                  refine v_V1 (c_X8_refuse (k := 3) (by decide) (by decide) (by decide)) lk_X8_58 dX8_copy_114 (by decide) (Nat.le_of_ble_eq_true rfl) (by first | rfl | exact lay_door (by omega) | exact lay_dt (by omega) | exact lay_da (by omega) | exact lay_sh (by omega) | exact lay_se (by omega)) (show _ < 78 + 3 * _ by omega) ?_
                  exact v_retI dX8_copy_117 trivial (by simp only [dCop, if_pos h4, if_pos h11, if_neg h41, if_neg h49, if_pos h64, if_neg h72]; exact ⟨rfl, rfl⟩)
            · refine v_ald6 dX8_copy_75 ?_
              refine v_getI dX8_copy_77 fl_X8_105 (by first | rfl | exact lay_door (by omega) | exact lay_dt (by omega) | exact lay_da (by omega) | exact lay_sh (by omega) | exact lay_se (by omega)) rfl (by omega) ?_
              refine v_ald7 dX8_copy_80 ?_
              refine v_getI dX8_copy_82 fl_X8_105 (by first | rfl | exact lay_door (by omega) | exact lay_dt (by omega) | exact lay_da (by omega) | exact lay_sh (by omega) | exact lay_se (by omega)) rfl (by omega) ?_
              refine v_icmp_eq (tgt := 95) dX8_copy_85 (by decide) (fun h85 => ?_) (fun h85 => ?_)
              · refine v_ald6 dX8_copy_95 ?_
                refine v_V0 (c_X4_isRow hsp) lk_X8_102 dX8_copy_97 (by decide) (Nat.le_of_ble_eq_true rfl) (by first | rfl | exact lay_door (by omega) | exact lay_dt (by omega) | exact lay_da (by omega) | exact lay_sh (by omega) | exact lay_se (by omega)) (show _ < 78 + 3 * _ by omega) ?_
                refine v_ifeq_b (tgt := 111) dX8_copy_100 (by decide) (fun h100 => ?_) (fun h100 => ?_)
                · refine v_ald0 dX8_copy_111 ?_
                  refine v_bipush (v := -3) dX8_copy_112 (by decide) ?_
                  refine v_V1 (c_X8_refuse (k := 3) (by decide) (by decide) (by decide)) lk_X8_58 dX8_copy_114 (by decide) (Nat.le_of_ble_eq_true rfl) (by first | rfl | exact lay_door (by omega) | exact lay_dt (by omega) | exact lay_da (by omega) | exact lay_sh (by omega) | exact lay_se (by omega)) (show _ < 78 + 3 * _ by omega) ?_
                  exact v_retI dX8_copy_117 trivial (absurd h64 h100)
                · refine v_ald7 dX8_copy_103 ?_
                  refine v_V0 (c_X4_isRow hsq) lk_X8_102 dX8_copy_105 (by decide) (Nat.le_of_ble_eq_true rfl) (by first | rfl | exact lay_door (by omega) | exact lay_dt (by omega) | exact lay_da (by omega) | exact lay_sh (by omega) | exact lay_se (by omega)) (show _ < 78 + 3 * _ by omega) ?_
                  refine v_ifne_b (tgt := 118) dX8_copy_108 (by decide) (fun h108 => ?_) (fun h108 => ?_)
                  · refine v_ild5 dX8_copy_118 ?_
                    refine v_if_ge (tgt := 130) dX8_copy_120 (by decide) (fun h120 => ?_) (fun h120 => ?_)
                    · refine v_ald6 dX8_copy_130 ?_
                      refine v_ild3 dX8_copy_132 ?_
                      refine v_ild5 dX8_copy_133 ?_
                      refine v_V2 (c_X4_hasStretch hsp) lk_X8_108 dX8_copy_135 (by decide) (Nat.le_of_ble_eq_true rfl) (by first | rfl | exact lay_door (by omega) | exact lay_dt (by omega) | exact lay_da (by omega) | exact lay_sh (by omega) | exact lay_se (by omega)) (show _ < 78 + 3 * _ by omega) ?_
                      refine v_ifeq_b (tgt := 153) dX8_copy_138 (by decide) (fun h138 => ?_) (fun h138 => ?_)
                      · refine v_ald0 dX8_copy_153 ?_
                        refine v_bipush (v := -5) dX8_copy_154 (by decide) ?_
                        refine v_V1 (c_X8_refuse (k := 5) (by decide) (by decide) (by decide)) lk_X8_58 dX8_copy_156 (by decide) (Nat.le_of_ble_eq_true rfl) (by first | rfl | exact lay_door (by omega) | exact lay_dt (by omega) | exact lay_da (by omega) | exact lay_sh (by omega) | exact lay_se (by omega)) (show _ < 78 + 3 * _ by omega) ?_
                        exact v_retI dX8_copy_159 trivial (by simp only [dCop, if_pos h4, if_pos h11, if_neg h41, if_neg h49, if_pos h64, if_pos h72, if_pos h85, if_pos h120, if_neg h138]; exact ⟨rfl, rfl⟩)
                      · refine v_ald7 dX8_copy_141 ?_
                        refine v_ild4 dX8_copy_143 ?_
                        refine v_ild5 dX8_copy_145 ?_
                        refine v_V2 (c_X4_hasStretch hsq) lk_X8_108 dX8_copy_147 (by decide) (Nat.le_of_ble_eq_true rfl) (by first | rfl | exact lay_door (by omega) | exact lay_dt (by omega) | exact lay_da (by omega) | exact lay_sh (by omega) | exact lay_se (by omega)) (show _ < 78 + 3 * _ by omega) ?_
                        refine v_ifne_b (tgt := 160) dX8_copy_150 (by decide) (fun h150 => ?_) (fun h150 => ?_)
                        · obtain ⟨ei, en, eb⟩ := hst_ix (hW.sz hsp).1 (hW.sz hsp).2 h138
                          obtain ⟨ej, en2, eb2⟩ := hst_ix (hW.sz hsq).1 (hW.sz hsq).2 h150
                          have hz1 := (hW.sz hsp).2
                          have hz2 := (hW.sz hsq).2
                          refine v_ald6 dX8_copy_160 ?_
                          refine v_getP dX8_copy_162 fl_X8_111 (by first | rfl | exact lay_door (by omega) | exact lay_dt (by omega) | exact lay_da (by omega) | exact lay_sh (by omega) | exact lay_se (by omega)) rfl (by omega) (by first | rfl | exact Pc_d (by omega) | exact Pc_dt (by omega) | exact Pc_da (by omega) | exact Pc_s (by omega) | exact Pc_se (by omega)) ?_
                          refine v_ild3 dX8_copy_165 ?_
                          refine v_ald7 dX8_copy_166 ?_
                          refine v_getP dX8_copy_168 fl_X8_111 (by first | rfl | exact lay_door (by omega) | exact lay_dt (by omega) | exact lay_da (by omega) | exact lay_sh (by omega) | exact lay_se (by omega)) rfl (by omega) (by first | rfl | exact Pc_d (by omega) | exact Pc_dt (by omega) | exact Pc_da (by omega) | exact Pc_s (by omega) | exact Pc_se (by omega)) ?_
                          refine v_ild4 dX8_copy_171 ?_
                          refine v_ild5 dX8_copy_173 ?_
                          refine v_copyL dX8_copy_175 lj_X8_115 (by decide) (Nat.le_of_ble_eq_true rfl) (lay_se hsp) (lay_se hsq) (by omega) (by omega) ei ej en (by omega) (by omega) (by decide) (by decide) ?_
                          refine v_icN (n := 1) dX8_copy_178 (by decide) ?_
                          exact v_retI dX8_copy_179 trivial (by simp only [dCop, if_pos h4, if_pos h11, if_neg h41, if_neg h49, if_pos h64, if_pos h72, if_pos h85, if_pos h120, if_pos h138, if_pos h150]; exact ⟨rfl, rfl⟩)
                        · refine v_ald0 dX8_copy_153 ?_
                          refine v_bipush (v := -5) dX8_copy_154 (by decide) ?_
                          refine v_V1 (c_X8_refuse (k := 5) (by decide) (by decide) (by decide)) lk_X8_58 dX8_copy_156 (by decide) (Nat.le_of_ble_eq_true rfl) (by first | rfl | exact lay_door (by omega) | exact lay_dt (by omega) | exact lay_da (by omega) | exact lay_sh (by omega) | exact lay_se (by omega)) (show _ < 78 + 3 * _ by omega) ?_
                          exact v_retI dX8_copy_159 trivial (by simp only [dCop, if_pos h4, if_pos h11, if_neg h41, if_neg h49, if_pos h64, if_pos h72, if_pos h85, if_pos h120, if_pos h138, if_neg h150]; exact ⟨rfl, rfl⟩)
                    · refine v_ald0 dX8_copy_123 ?_
                      refine v_bipush (v := -4) dX8_copy_124 (by decide) ?_
                      refine v_V1 (c_X8_refuse (k := 4) (by decide) (by decide) (by decide)) lk_X8_58 dX8_copy_126 (by decide) (Nat.le_of_ble_eq_true rfl) (by first | rfl | exact lay_door (by omega) | exact lay_dt (by omega) | exact lay_da (by omega) | exact lay_sh (by omega) | exact lay_se (by omega)) (show _ < 78 + 3 * _ by omega) ?_
                      exact v_retI dX8_copy_129 trivial (by simp only [dCop, if_pos h4, if_pos h11, if_neg h41, if_neg h49, if_pos h64, if_pos h72, if_pos h85, if_neg h120]; exact ⟨rfl, rfl⟩)
                  · refine v_ald0 dX8_copy_111 ?_
                    refine v_bipush (v := -3) dX8_copy_112 (by decide) ?_
                    refine v_V1 (c_X8_refuse (k := 3) (by decide) (by decide) (by decide)) lk_X8_58 dX8_copy_114 (by decide) (Nat.le_of_ble_eq_true rfl) (by first | rfl | exact lay_door (by omega) | exact lay_dt (by omega) | exact lay_da (by omega) | exact lay_sh (by omega) | exact lay_se (by omega)) (show _ < 78 + 3 * _ by omega) ?_
                    exact v_retI dX8_copy_117 trivial (absurd h72 h108)
              · refine v_ald0 dX8_copy_88 ?_
                refine v_bipush (v := -2) dX8_copy_89 (by decide) ?_
                refine v_V1 (c_X8_refuse (k := 2) (by decide) (by decide) (by decide)) lk_X8_58 dX8_copy_91 (by decide) (Nat.le_of_ble_eq_true rfl) (by first | rfl | exact lay_door (by omega) | exact lay_dt (by omega) | exact lay_da (by omega) | exact lay_sh (by omega) | exact lay_se (by omega)) (show _ < 78 + 3 * _ by omega) ?_
                exact v_retI dX8_copy_94 trivial (by simp only [dCop, if_pos h4, if_pos h11, if_neg h41, if_neg h49, if_pos h64, if_pos h72, if_neg h85]; exact ⟨rfl, rfl⟩)
        · refine v_ald0 dX8_copy_52 ?_
          refine v_bipush (v := -2) dX8_copy_53 (by decide) ?_
          refine v_V1 (c_X8_refuse (k := 2) (by decide) (by decide) (by decide)) lk_X8_58 dX8_copy_55 (by decide) (Nat.le_of_ble_eq_true rfl) (by first | rfl | exact lay_door (by omega) | exact lay_dt (by omega) | exact lay_da (by omega) | exact lay_sh (by omega) | exact lay_se (by omega)) (show _ < 78 + 3 * _ by omega) ?_
          exact v_retI dX8_copy_58 trivial (by simp only [dCop, if_pos h4, if_pos h11, if_neg h41, if_pos h49]; exact ⟨rfl, rfl⟩)
    · refine v_ald0 dX8_copy_14 ?_
      refine v_icm1 dX8_copy_15 ?_
      refine v_V1 (c_X8_refuse (k := 1) (by decide) (by decide) (by decide)) lk_X8_58 dX8_copy_16 (by decide) (Nat.le_of_ble_eq_true rfl) (by first | rfl | exact lay_door (by omega) | exact lay_dt (by omega) | exact lay_da (by omega) | exact lay_sh (by omega) | exact lay_se (by omega)) (show _ < 78 + 3 * _ by omega) ?_
      exact v_retI dX8_copy_19 trivial (by simp only [dCop, if_pos h4, if_neg h11]; exact ⟨rfl, rfl⟩)
