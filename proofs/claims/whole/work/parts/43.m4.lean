theorem gr2_u {α : Type} (f : Nat → Nat → α) {a a' b m k : Nat} (g : Nat → α) (v : α) (h : a ≠ a') : u2 (gr2 f a b m g) a' k v = gr2 (u2 f a' k v) a b m g := by
  funext x j
  unfold u2 gr2
  by_cases h1 : x = a'
  · subst h1
    have h2 : ¬ (x = a ∧ b ≤ j ∧ j < b + m) := fun q => h q.1.symm
    simp only [if_neg h2]
  · have h2 : ∀ z, ¬ (x = a' ∧ z = k) := fun z q => h1 q.1
    simp only [if_neg (h2 _)]
abbrev mba (I : Nat → Nat → Int32) (d : Nat) : Prop := I 45 d = 0 ∨ I 45 d = nI 3 ∨ (I 45 d = nI 1 ∧ ¬ I 52 d = 0)
/-- a return of a door of the model -/
def rtI (I : Nat → Nat → Int32) (d : Nat) (w n : Int32) : Nat → Nat → Int32 := gr2 (gr2 (u2 (u2 (u2 I 45 d w) 46 d n) 52 d (nI 0)) 47 (12 * d) 12 (fun _ => -2)) 53 (12 * d) 12 (fun _ => nI 0)

set_option maxRecDepth 4000 in
theorem lp_rtn {G : GG} {dc : Nat} {J : Nat → Nat → Int32} {L : Nat → Nat → Int64} {d : Nat} {w n : Int32} (hd : d < 24) (k : Nat) : ∀ i, i + k = 12 → V G yX9_returns cX9_returns 5 none 0 0 0 24 [.ref 39, .int (nI d), .int w, .int n, .int (nI i)] [] (Mm dc (gr2 (gr2 J 47 (12 * d) (i) (fun _ => -2)) 53 (12 * d) (i) (fun _ => nI 0)) L) (Is none (Mm dc (gr2 (gr2 J 47 (12 * d) (12) (fun _ => -2)) 53 (12 * d) (12) (fun _ => nI 0)) L)) := by
  induction k with
  | zero =>
    intro i hi
    refine v_ild4 dX9_returns_24 ?_
    refine v_bipush (v := nI 12) dX9_returns_26 (by decide) ?_
    refine v_icmp_ge (tgt := 64) dX9_returns_28 (by decide) (fun h28 => ?_) (fun h28 => absurd (nI_le (by omega) (by omega)) h28)
    exact v_retV dX9_returns_64 trivial (by rw [show i = 12 by omega]; exact ⟨rfl, rfl⟩)
  | succ k ih =>
    intro i hi
    refine v_ild4 dX9_returns_24 ?_
    refine v_bipush (v := nI 12) dX9_returns_26 (by decide) ?_
    refine v_icmp_ge (tgt := 64) dX9_returns_28 (by decide) (fun h28 => absurd h28 (nI_ge (by omega) (by omega))) (fun h28 => ?_)
    refine v_ald0 dX9_returns_31 ?_
    refine v_getP (q := 47) dX9_returns_32 fl_X9_31 (by first | rfl | exact lay_door (by omega) | exact lay_dt (by omega) | exact lay_da (by omega) | exact lay_sh (by omega) | exact lay_se (by omega)) rfl (by omega) rfl ?_
    refine v_bipush (v := nI 12) dX9_returns_35 (by decide) ?_
    refine v_ild1 dX9_returns_37 ?_
    refine v_imul dX9_returns_38 ?_
    refine v_ild4 dX9_returns_39 ?_
    refine v_iadd dX9_returns_41 ?_
    refine v_bipush (v := -2) dX9_returns_42 (by decide) ?_
    refine v_iast dX9_returns_44 (by first | rfl | exact lay_door (by omega) | exact lay_dt (by omega) | exact lay_da (by omega) | exact lay_sh (by omega) | exact lay_se (by omega)) (by omega) (ix_mul rfl rfl (by omega) (by decide)) ?_
    refine v_ald0 dX9_returns_45 ?_
    refine v_getP (q := 53) dX9_returns_46 fl_X9_50 (by first | rfl | exact lay_door (by omega) | exact lay_dt (by omega) | exact lay_da (by omega) | exact lay_sh (by omega) | exact lay_se (by omega)) rfl (by omega) rfl ?_
    refine v_bipush (v := nI 12) dX9_returns_49 (by decide) ?_
    refine v_ild1 dX9_returns_51 ?_
    refine v_imul dX9_returns_52 ?_
    refine v_ild4 dX9_returns_53 ?_
    refine v_iadd dX9_returns_55 ?_
    refine v_icN (n := 0) dX9_returns_56 (by decide) ?_
    refine v_zast dX9_returns_57 (by first | rfl | exact lay_door (by omega) | exact lay_dt (by omega) | exact lay_da (by omega) | exact lay_sh (by omega) | exact lay_se (by omega)) (by omega) (ix_mul rfl rfl (by omega) (by decide)) (by first | exact Or.inl rfl | exact Or.inr rfl | exact bI_01) ?_
    refine v_inc4 dX9_returns_58 rfl ?_
    refine v_goto (tgt := 24) dX9_returns_61 (by decide) ?_
    rw [gr2_u _ _ _ (by decide), gr2_s _ _ _ _ _ rfl, gr2_s _ _ _ _ _ rfl, nI_1 i]
    exact ih (i + 1) (by omega)

set_option maxRecDepth 4000 in
theorem c_X9_returns {G : GG} {dc : Nat} {I : Nat → Nat → Int32} {L : Nat → Nat → Int64} {b w n : Int32} {d : Nat} (hb : b = nI d) (hd : d < 24) : Cn G yX9_returns cX9_returns 5 none 0 0 0 [.ref 39, .int b, .int w, .int n] (Mm dc I L) (Is none (Mm dc (rtI I d w n) L)) := by
  subst hb
  refine Cn.of' (by decide) (Nat.le_of_ble_eq_true rfl) rfl ?_
  refine v_ald0 dX9_returns_0 ?_
  refine v_getP (q := 45) dX9_returns_1 fl_X9_25 (by first | rfl | exact lay_door (by omega) | exact lay_dt (by omega) | exact lay_da (by omega) | exact lay_sh (by omega) | exact lay_se (by omega)) rfl (by omega) rfl ?_
  refine v_ild1 dX9_returns_4 ?_
  refine v_ild2 dX9_returns_5 ?_
  refine v_iast dX9_returns_6 (by first | rfl | exact lay_door (by omega) | exact lay_dt (by omega) | exact lay_da (by omega) | exact lay_sh (by omega) | exact lay_se (by omega)) (by omega) ⟨rfl, hd, by decide⟩ ?_
  refine v_ald0 dX9_returns_7 ?_
  refine v_getP (q := 46) dX9_returns_8 fl_X9_28 (by first | rfl | exact lay_door (by omega) | exact lay_dt (by omega) | exact lay_da (by omega) | exact lay_sh (by omega) | exact lay_se (by omega)) rfl (by omega) rfl ?_
  refine v_ild1 dX9_returns_11 ?_
  refine v_ild3 dX9_returns_12 ?_
  refine v_iast dX9_returns_13 (by first | rfl | exact lay_door (by omega) | exact lay_dt (by omega) | exact lay_da (by omega) | exact lay_sh (by omega) | exact lay_se (by omega)) (by omega) ⟨rfl, hd, by decide⟩ ?_
  refine v_ald0 dX9_returns_14 ?_
  refine v_getP (q := 52) dX9_returns_15 fl_X9_46 (by first | rfl | exact lay_door (by omega) | exact lay_dt (by omega) | exact lay_da (by omega) | exact lay_sh (by omega) | exact lay_se (by omega)) rfl (by omega) rfl ?_
  refine v_ild1 dX9_returns_18 ?_
  refine v_icN (n := 0) dX9_returns_19 (by decide) ?_
  refine v_zast dX9_returns_20 (by first | rfl | exact lay_door (by omega) | exact lay_dt (by omega) | exact lay_da (by omega) | exact lay_sh (by omega) | exact lay_se (by omega)) (by omega) ⟨rfl, hd, by decide⟩ (by first | exact Or.inl rfl | exact Or.inr rfl | exact bI_01) ?_
  refine v_icN (n := 0) dX9_returns_21 (by decide) ?_
  refine v_ist4 dX9_returns_22 rfl ?_
  have h9 := lp_rtn (G := G) (dc := dc) (J := u2 (u2 (u2 I 45 d w) 46 d n) 52 d (nI 0)) (L := L) (w := w) (n := n) hd 12 0 (by omega)
  rw [gr2_0, gr2_0] at h9
  exact h9

def mTru (dc : Nat) (I : Nat → Nat → Int32) (b s : Int32) : Nat := if inR b dc then (if mk0 I s = 0 then (if I 39 22 = 0 then (if I 62 (tn s) ≤ nI 12 then 0 else 7) else 6) else mk0 I s) else 1
def mAg (I : Nat → Nat → Int32) (L : Nat → Nat → Int64) (s j : Nat) : Int32 := if I 61 s = nI 3 ∧ L 63 (30 * s + j) = -9223372036854775808 then -2 else (if inR (L 63 (30 * s + j)).toInt32 111 then (L 63 (30 * s + j)).toInt32 else -2)
def mTrI (I : Nat → Nat → Int32) (L : Nat → Nat → Int64) (d s : Nat) : Nat → Nat → Int32 := gr2 (u2 I 43 d (I 62 s)) 44 (12 * d) (tn (I 62 s)) (mAg I L s)

set_option maxRecDepth 4000 in
theorem lp_tru {G : GG} {dc : Nat} {I : Nat → Nat → Int32} {L : Nat → Nat → Int64} {d p : Nat} {z : Nat} {w : Int32} (hd : d < 24) (hp : p < 8) (hz : I 62 p = nI z) (hz2 : z ≤ 12) (k : Nat) : ∀ i, i + k = z → ∀ a0 a1 a2 : Value, V G yX9_truth cX9_truth 8 (some .int) 1 0 0 77 [.ref 39, .int (nI d), .int (nI p), .int w, .int (nI i), a0, a1, a2] [] (Mm dc (gr2 (u2 I 43 d (I 62 p)) 44 (12 * d) (i) (mAg I L p)) L) (Is (some (.int (I 62 p))) (Mm dc (gr2 (u2 I 43 d (I 62 p)) 44 (12 * d) (z) (mAg I L p)) L)) := by
  induction k with
  | zero =>
    intro i hi a0 a1 a2
    refine v_ild4 dX9_truth_77 ?_
    refine v_ald0 dX9_truth_79 ?_
    refine v_getP (q := 62) dX9_truth_80 fl_X9_90 (by first | rfl | exact lay_door (by omega) | exact lay_dt (by omega) | exact lay_da (by omega) | exact lay_sh (by omega) | exact lay_se (by omega)) rfl (by omega) rfl ?_
    refine v_ild2 dX9_truth_83 ?_
    refine v_iald dX9_truth_84 (by first | rfl | exact lay_door (by omega) | exact lay_dt (by omega) | exact lay_da (by omega) | exact lay_sh (by omega) | exact lay_se (by omega)) (by omega) ⟨rfl, hp, by decide⟩ ?_
    refine v_e0 (congrArg Value.int (show _ = nI z from hz)) ?_
    refine v_icmp_ge (tgt := 159) dX9_truth_85 (by decide) (fun h85 => ?_) (fun h85 => absurd (nI_le (by omega) (by omega)) h85)
    refine v_ald0 dX9_truth_159 ?_
    refine v_getP (q := 62) dX9_truth_160 fl_X9_90 (by first | rfl | exact lay_door (by omega) | exact lay_dt (by omega) | exact lay_da (by omega) | exact lay_sh (by omega) | exact lay_se (by omega)) rfl (by omega) rfl ?_
    refine v_ild2 dX9_truth_163 ?_
    refine v_iald dX9_truth_164 (by first | rfl | exact lay_door (by omega) | exact lay_dt (by omega) | exact lay_da (by omega) | exact lay_sh (by omega) | exact lay_se (by omega)) (by omega) ⟨rfl, hp, by decide⟩ ?_
    exact v_retI dX9_truth_165 trivial (by rw [show i = z by omega]; exact ⟨rfl, rfl⟩)
  | succ k ih =>
    intro i hi a0 a1 a2
    refine v_ild4 dX9_truth_77 ?_
    refine v_ald0 dX9_truth_79 ?_
    refine v_getP (q := 62) dX9_truth_80 fl_X9_90 (by first | rfl | exact lay_door (by omega) | exact lay_dt (by omega) | exact lay_da (by omega) | exact lay_sh (by omega) | exact lay_se (by omega)) rfl (by omega) rfl ?_
    refine v_ild2 dX9_truth_83 ?_
    refine v_iald dX9_truth_84 (by first | rfl | exact lay_door (by omega) | exact lay_dt (by omega) | exact lay_da (by omega) | exact lay_sh (by omega) | exact lay_se (by omega)) (by omega) ⟨rfl, hp, by decide⟩ ?_
    refine v_e0 (congrArg Value.int (show _ = nI z from hz)) ?_
    refine v_icmp_ge (tgt := 159) dX9_truth_85 (by decide) (fun h85 => absurd h85 (nI_ge (by omega) (by omega))) (fun h85 => ?_)
    refine v_ald0 dX9_truth_88 ?_
    refine v_getP (q := 63) dX9_truth_89 fl_X9_93 (by first | rfl | exact lay_door (by omega) | exact lay_dt (by omega) | exact lay_da (by omega) | exact lay_sh (by omega) | exact lay_se (by omega)) rfl (by omega) rfl ?_
    refine v_bipush (v := nI 30) dX9_truth_92 (by decide) ?_
    refine v_ild2 dX9_truth_94 ?_
    refine v_imul dX9_truth_95 ?_
    refine v_ild4 dX9_truth_96 ?_
    refine v_iadd dX9_truth_98 ?_
    refine v_lald dX9_truth_99 (by first | rfl | exact lay_door (by omega) | exact lay_dt (by omega) | exact lay_da (by omega) | exact lay_sh (by omega) | exact lay_se (by omega)) (by omega) (ix_mul rfl rfl (by omega) (by decide)) ?_
    refine v_lst5 dX9_truth_100 rfl ?_
    refine v_lld5 dX9_truth_102 ?_
    refine v_l2i dX9_truth_104 ?_
    refine v_ist7 dX9_truth_105 rfl ?_
    refine v_ald0 dX9_truth_107 ?_
    refine v_getP (q := 44) dX9_truth_108 fl_X9_22 (by first | rfl | exact lay_door (by omega) | exact lay_dt (by omega) | exact lay_da (by omega) | exact lay_sh (by omega) | exact lay_se (by omega)) rfl (by omega) rfl ?_
    refine v_bipush (v := nI 12) dX9_truth_111 (by decide) ?_
    refine v_ild1 dX9_truth_113 ?_
    refine v_imul dX9_truth_114 ?_
    refine v_ild4 dX9_truth_115 ?_
    refine v_iadd dX9_truth_117 ?_
    refine v_ald0 dX9_truth_118 ?_
    refine v_getP (q := 61) dX9_truth_119 fl_X9_87 (by first | rfl | exact lay_door (by omega) | exact lay_dt (by omega) | exact lay_da (by omega) | exact lay_sh (by omega) | exact lay_se (by omega)) rfl (by omega) rfl ?_
    refine v_ild2 dX9_truth_122 ?_
    refine v_iald dX9_truth_123 (by first | rfl | exact lay_door (by omega) | exact lay_dt (by omega) | exact lay_da (by omega) | exact lay_sh (by omega) | exact lay_se (by omega)) (by omega) ⟨rfl, hp, by decide⟩ ?_
    refine v_lld5 dX9_truth_124 ?_
    refine v_S2 c_X9_isLeast lk_X9_190 dX9_truth_126 (by decide) (Nat.le_of_ble_eq_true rfl) ?_
    refine v_ifne_b (tgt := 150) dX9_truth_129 (by decide) (fun h129 => ?_) (fun h129 => ?_)
    · refine v_bipush (v := -2) dX9_truth_150 (by decide) ?_
      refine v_iast dX9_truth_152 (by first | rfl | exact lay_door (by omega) | exact lay_dt (by omega) | exact lay_da (by omega) | exact lay_sh (by omega) | exact lay_se (by omega)) (by omega) (ix_mul rfl rfl (by omega) (by decide)) ?_
      refine v_inc4 dX9_truth_153 rfl ?_
      refine v_goto (tgt := 77) dX9_truth_156 (by decide) ?_
      have h129 : (I 61 p = nI 3 ∧ L 63 (30 * p + i) = -9223372036854775808) := h129
      rw [gr2_s _ _ _ _ _ (show _ = mAg I L p i by simp only [mAg, if_neg h85, if_pos h129]), nI_1 i]
      exact ih (i + 1) (by omega) _ _ _
    · refine v_ild7 dX9_truth_132 ?_
      refine v_i2l dX9_truth_134 ?_
      refine v_lcN0 dX9_truth_135 ?_
      refine v_ldc2 dX9_truth_136 kc_X9_194 ?_
      refine v_S3 (c_isInR 110 (by decide) (by decide) (by decide)) lk_X9_152 dX9_truth_139 (by decide) (Nat.le_of_ble_eq_true rfl) ?_
      refine v_ifeq_b (tgt := 150) dX9_truth_142 (by decide) (fun h142 => ?_) (fun h142 => ?_)
      · refine v_bipush (v := -2) dX9_truth_150 (by decide) ?_
        refine v_iast dX9_truth_152 (by first | rfl | exact lay_door (by omega) | exact lay_dt (by omega) | exact lay_da (by omega) | exact lay_sh (by omega) | exact lay_se (by omega)) (by omega) (ix_mul rfl rfl (by omega) (by decide)) ?_
        refine v_inc4 dX9_truth_153 rfl ?_
        refine v_goto (tgt := 77) dX9_truth_156 (by decide) ?_
        have h129 : ¬ (I 61 p = nI 3 ∧ L 63 (30 * p + i) = -9223372036854775808) := h129
        rw [gr2_s _ _ _ _ _ (show _ = mAg I L p i by simp only [mAg, if_neg h85, if_neg h129, if_neg h142]), nI_1 i]
        exact ih (i + 1) (by omega) _ _ _
      · refine v_ild7 dX9_truth_145 ?_
        refine v_goto (tgt := 152) dX9_truth_147 (by decide) ?_
        refine v_iast dX9_truth_152 (by first | rfl | exact lay_door (by omega) | exact lay_dt (by omega) | exact lay_da (by omega) | exact lay_sh (by omega) | exact lay_se (by omega)) (by omega) (ix_mul rfl rfl (by omega) (by decide)) ?_
        refine v_inc4 dX9_truth_153 rfl ?_
        refine v_goto (tgt := 77) dX9_truth_156 (by decide) ?_
        have h129 : ¬ (I 61 p = nI 3 ∧ L 63 (30 * p + i) = -9223372036854775808) := h129
        rw [gr2_s _ _ _ _ _ (show _ = mAg I L p i by simp only [mAg, if_neg h85, if_neg h129, if_pos h142]), nI_1 i]
        exact ih (i + 1) (by omega) _ _ _

set_option maxRecDepth 4000 in
theorem c_X9_truth {G : GG} {dc : Nat} {I : Nat → Nat → Int32} {L : Nat → Nat → Int64} {b s : Int32} (hW : Wm dc I) : Cn G yX9_truth cX9_truth 8 (some .int) 2 0 0 [.ref 39, .int b, .int s] (Mm dc I L) (Is (some (.int (oR (mTru dc I b s) (I 62 (tn s))))) (pM (mTru dc I b s) dc I L (Mm dc (mTrI I L (tn b) (tn s)) (L)))) := by
  refine Cn.of' (by decide) (Nat.le_of_ble_eq_true rfl) rfl ?_
  refine v_ald0 dX9_truth_0 ?_
  refine v_ild1 dX9_truth_1 ?_
  refine v_V1 (c_mDoor hW) lk_X9_172 dX9_truth_2 (by decide) (Nat.le_of_ble_eq_true rfl) (by first | rfl | exact lay_door (by omega) | exact lay_dt (by omega) | exact lay_da (by omega) | exact lay_sh (by omega) | exact lay_se (by omega)) (show _ < 78 + 3 * _ by omega) ?_
  refine v_ifne_b (tgt := 14) dX9_truth_5 (by decide) (fun h5 => ?_) (fun h5 => ?_)
  · have hd9 := tn_lt rfl (by have := hW.1; omega) h5
    have hc9 := hW.1
    have hd8 : tn b < 24 := by omega
    obtain ⟨hw0, hw1, hw3, hw6⟩ := hW.2.2.2 _ hd9.1
    refine v_ald0 dX9_truth_14 ?_
    refine v_ild2 dX9_truth_15 ?_
    refine v_V1 c_X9_notRow lk_X9_165 dX9_truth_16 (by decide) (Nat.le_of_ble_eq_true rfl) (by first | rfl | exact lay_door (by omega) | exact lay_dt (by omega) | exact lay_da (by omega) | exact lay_sh (by omega) | exact lay_se (by omega)) (show _ < 78 + 3 * _ by omega) ?_
    refine v_ist3 dX9_truth_19 rfl ?_
    refine v_ild3 dX9_truth_20 ?_
    refine v_ifne_o (mk0_lt _ _) (tgt := 34) dX9_truth_21 (by decide) (fun h21 => ?_) (fun h21 => ?_)
    · refine v_ild3 dX9_truth_34 ?_
      refine v_ifne_o (mk0_lt _ _) (tgt := 52) dX9_truth_35 (by decide) (fun h35 => ?_) (fun h35 => absurd h35 h21)
      refine v_ild3 dX9_truth_52 ?_
      refine v_ifeq_o (mk0_lt _ _) (tgt := 62) dX9_truth_53 (by decide) (fun h53 => absurd h53 h21) (fun h53 => ?_)
      refine v_ald0 dX9_truth_56 ?_
      refine v_ild3 dX9_truth_57 ?_
      refine v_V1 (c_X9_no (oRk h21 _) (mk0_lt _ _) (Nat.one_le_iff_ne_zero.mpr h21)) lk_X9_146 dX9_truth_58 (by decide) (Nat.le_of_ble_eq_true rfl) (by first | rfl | exact lay_door (by omega) | exact lay_dt (by omega) | exact lay_da (by omega) | exact lay_sh (by omega) | exact lay_se (by omega)) (show _ < 78 + 3 * _ by omega) ?_
      exact v_retI dX9_truth_61 trivial (by simp only [mTru, if_pos h5, if_neg h21]; rw [oRk h21, pMk h21]; exact ⟨rfl, rfl⟩)
    · have hs9 : tn s < 8 := (ix_R (by decide) (mk0_in h21)).2.1
      refine v_ald0 dX9_truth_24 ?_
      refine v_getI dX9_truth_25 fl_X9_158 (by first | rfl | exact lay_door (by omega) | exact lay_dt (by omega) | exact lay_da (by omega) | exact lay_sh (by omega) | exact lay_se (by omega)) rfl (by omega) ?_
      refine v_if_eq (tgt := 34) dX9_truth_28 (by decide) (fun h28 => ?_) (fun h28 => ?_)
      · refine v_ild3 dX9_truth_34 ?_
        refine v_ifne_o (mk0_lt _ _) (tgt := 52) dX9_truth_35 (by decide) (fun h35 => absurd h21 h35) (fun h35 => ?_)
        refine v_ald0 dX9_truth_38 ?_
        refine v_getP (q := 62) dX9_truth_39 fl_X9_90 (by first | rfl | exact lay_door (by omega) | exact lay_dt (by omega) | exact lay_da (by omega) | exact lay_sh (by omega) | exact lay_se (by omega)) rfl (by omega) rfl ?_
        refine v_ild2 dX9_truth_42 ?_
        refine v_iald dX9_truth_43 (by first | rfl | exact lay_door (by omega) | exact lay_dt (by omega) | exact lay_da (by omega) | exact lay_sh (by omega) | exact lay_se (by omega)) (by omega) (ix_R (by decide) (mk0_in h21)) ?_
        refine v_bipush (v := nI 12) dX9_truth_44 (by decide) ?_
        refine v_icmp_le (tgt := 52) dX9_truth_46 (by decide) (fun h46 => ?_) (fun h46 => ?_)
        · refine v_ild3 dX9_truth_52 ?_
          refine v_ifeq_o (mk0_lt _ _) (tgt := 62) dX9_truth_53 (by decide) (fun h53 => ?_) (fun h53 => absurd h21 h53)
          refine v_ald0 dX9_truth_62 ?_
          refine v_getP (q := 43) dX9_truth_63 fl_X9_19 (by first | rfl | exact lay_door (by omega) | exact lay_dt (by omega) | exact lay_da (by omega) | exact lay_sh (by omega) | exact lay_se (by omega)) rfl (by omega) rfl ?_
          refine v_ild1 dX9_truth_66 ?_
          refine v_ald0 dX9_truth_67 ?_
          refine v_getP (q := 62) dX9_truth_68 fl_X9_90 (by first | rfl | exact lay_door (by omega) | exact lay_dt (by omega) | exact lay_da (by omega) | exact lay_sh (by omega) | exact lay_se (by omega)) rfl (by omega) rfl ?_
          refine v_ild2 dX9_truth_71 ?_
          refine v_iald dX9_truth_72 (by first | rfl | exact lay_door (by omega) | exact lay_dt (by omega) | exact lay_da (by omega) | exact lay_sh (by omega) | exact lay_se (by omega)) (by omega) (ix_R (by decide) (mk0_in h21)) ?_
          refine v_iast dX9_truth_73 (by first | rfl | exact lay_door (by omega) | exact lay_dt (by omega) | exact lay_da (by omega) | exact lay_sh (by omega) | exact lay_se (by omega)) (by omega) ⟨hd9.2, hd8, by decide⟩ ?_
          refine v_icN (n := 0) dX9_truth_74 (by decide) ?_
          refine v_ist4 dX9_truth_75 rfl ?_
          have hz1 := le12 (hW.sz hs9).1 (by have := (hW.sz hs9).2; omega) (by decide) h46
          simp only [mTru, if_pos h5, if_pos h21, if_pos h28, if_pos h46]
          have h9 := lp_tru (G := G) (dc := dc) (I := I) (L := L) (w := oR (mk0 I s) (nI 0)) hd8 hs9 (hW.sz hs9).1 hz1 _ 0 (Nat.zero_add _) UU UU UU
          rw [gr2_0] at h9
          rw [← hd9.2, ← (ix_R (by decide) (mk0_in h21)).1] at h9
          exact V.mono (Nat.le_of_ble_eq_true rfl) (Nat.le_refl _) (Nat.le_refl _) (fun _ _ h => h) h9
        · refine v_bipush (v := -7) dX9_truth_49 (by decide) ?_
          refine v_ist3 dX9_truth_51 rfl ?_
          refine v_ild3 dX9_truth_52 ?_
          refine v_if_eq (tgt := 62) dX9_truth_53 (by decide) (fun h53 => absurd h53 (by decide)) (fun h53 => ?_)
          refine v_ald0 dX9_truth_56 ?_
          refine v_ild3 dX9_truth_57 ?_
          refine v_V1 (c_X9_no (k := 7) (by decide) (by decide) (by decide)) lk_X9_146 dX9_truth_58 (by decide) (Nat.le_of_ble_eq_true rfl) (by first | rfl | exact lay_door (by omega) | exact lay_dt (by omega) | exact lay_da (by omega) | exact lay_sh (by omega) | exact lay_se (by omega)) (show _ < 78 + 3 * _ by omega) ?_
          exact v_retI dX9_truth_61 trivial (by simp only [mTru, if_pos h5, if_pos h21, if_pos h28, if_neg h46]; exact ⟨rfl, rfl⟩)
      · refine v_bipush (v := -6) dX9_truth_31 (by decide) ?_
        refine v_ist3 dX9_truth_33 rfl ?_
        refine v_ild3 dX9_truth_34 ?_
        refine v_if_ne (tgt := 52) dX9_truth_35 (by decide) (fun h35 => ?_) (fun h35 => absurd h35 (by decide))
        refine v_ild3 dX9_truth_52 ?_
        refine v_if_eq (tgt := 62) dX9_truth_53 (by decide) (fun h53 => absurd h53 (by decide)) (fun h53 => ?_)
        refine v_ald0 dX9_truth_56 ?_
        refine v_ild3 dX9_truth_57 ?_
        refine v_V1 (c_X9_no (k := 6) (by decide) (by decide) (by decide)) lk_X9_146 dX9_truth_58 (by decide) (Nat.le_of_ble_eq_true rfl) (by first | rfl | exact lay_door (by omega) | exact lay_dt (by omega) | exact lay_da (by omega) | exact lay_sh (by omega) | exact lay_se (by omega)) (show _ < 78 + 3 * _ by omega) ?_
        exact v_retI dX9_truth_61 trivial (by simp only [mTru, if_pos h5, if_pos h21, if_neg h28]; exact ⟨rfl, rfl⟩)
  · refine v_ald0 dX9_truth_8 ?_
    refine v_icm1 dX9_truth_9 ?_
    refine v_V1 (c_X9_no (k := 1) (by decide) (by decide) (by decide)) lk_X9_146 dX9_truth_10 (by decide) (Nat.le_of_ble_eq_true rfl) (by first | rfl | exact lay_door (by omega) | exact lay_dt (by omega) | exact lay_da (by omega) | exact lay_sh (by omega) | exact lay_se (by omega)) (show _ < 78 + 3 * _ by omega) ?_
    exact v_retI dX9_truth_13 trivial (by simp only [mTru, if_neg h5]; exact ⟨rfl, rfl⟩)

def mPap (dc : Nat) (I : Nat → Nat → Int32) (b : Int32) : Nat := if inR b dc then (if I 39 22 = 0 then (if mba I (tn b) then (if I 45 (tn b) = nI 1 then 6 else 0) else 6) else 6) else 1
def pN (g : Nat → Int32) (j : Nat) : Bool := decide (g j < 0)
def mpI (I : Nat → Nat → Int32) (d n t : Nat) : Nat → Nat → Int32 := gr2 (u2 (rtI I d (nI 1) (nI n)) 52 d (bI (n < t))) 47 (12 * d) n (fun k => I 44 (12 * d + k))
theorem rtI_o (I : Nat → Nat → Int32) {d : Nat} (w n : Int32) {x : Nat} (j : Nat) (h1 : x ≠ 45) (h2 : x ≠ 46) (h3 : x ≠ 52) (h4 : x ≠ 47) (h5 : x ≠ 53) : rtI I d w n x j = I x j := by
  unfold rtI
  rw [gr2_o _ _ _ h5, gr2_o _ _ _ h4, u2_a _ _ _ _ h3, u2_a _ _ _ _ h2, u2_a _ _ _ _ h1]

set_option maxRecDepth 4000 in
theorem lp_papB {G : GG} {dc : Nat} {J : Nat → Nat → Int32} {L : Nat → Nat → Int64} {I : Nat → Nat → Int32} {d n : Nat} (hd : d < 24) (hn : n ≤ 12) (hJ : ∀ j, J 44 j = I 44 j) (k : Nat) : ∀ i, i + k = n → V G yX9_paper cX9_paper 4 (some .int) 1 0 0 108 [.ref 39, .int (nI d), .int (nI n), .int (nI i)] [] (Mm dc (gr2 J 47 (12 * d) i (fun k => I 44 (12 * d + k))) L) (Is (some (.int (nI n))) (Mm dc (gr2 J 47 (12 * d) n (fun k => I 44 (12 * d + k))) L)) := by
  induction k with
  | zero =>
    intro i hi
    refine v_ild3 dX9_paper_108 ?_
    refine v_ild2 dX9_paper_109 ?_
    refine v_icmp_ge (tgt := 141) dX9_paper_110 (by decide) (fun h110 => ?_) (fun h110 => absurd (nI_le (by omega) (by omega)) h110)
    refine v_ild2 dX9_paper_141 ?_
    exact v_retI dX9_paper_142 trivial (by rw [show i = n by omega]; exact ⟨rfl, rfl⟩)
  | succ k ih =>
    intro i hi
    refine v_ild3 dX9_paper_108 ?_
    refine v_ild2 dX9_paper_109 ?_
    refine v_icmp_ge (tgt := 141) dX9_paper_110 (by decide) (fun h110 => absurd h110 (nI_ge (by omega) (by omega))) (fun h110 => ?_)
    refine v_ald0 dX9_paper_113 ?_
    refine v_getP (q := 47) dX9_paper_114 fl_X9_31 (by first | rfl | exact lay_door (by omega) | exact lay_dt (by omega) | exact lay_da (by omega) | exact lay_sh (by omega) | exact lay_se (by omega)) rfl (by omega) rfl ?_
    refine v_bipush (v := nI 12) dX9_paper_117 (by decide) ?_
    refine v_ild1 dX9_paper_119 ?_
    refine v_imul dX9_paper_120 ?_
    refine v_ild3 dX9_paper_121 ?_
    refine v_iadd dX9_paper_122 ?_
    refine v_ald0 dX9_paper_123 ?_
    refine v_getP (q := 44) dX9_paper_124 fl_X9_22 (by first | rfl | exact lay_door (by omega) | exact lay_dt (by omega) | exact lay_da (by omega) | exact lay_sh (by omega) | exact lay_se (by omega)) rfl (by omega) rfl ?_
    refine v_bipush (v := nI 12) dX9_paper_127 (by decide) ?_
    refine v_ild1 dX9_paper_129 ?_
    refine v_imul dX9_paper_130 ?_
    refine v_ild3 dX9_paper_131 ?_
    refine v_iadd dX9_paper_132 ?_
    refine v_iald dX9_paper_133 (by first | rfl | exact lay_door (by omega) | exact lay_dt (by omega) | exact lay_da (by omega) | exact lay_sh (by omega) | exact lay_se (by omega)) (by omega) (ix_mul rfl rfl (by omega) (by decide)) ?_
    refine v_iast dX9_paper_134 (by first | rfl | exact lay_door (by omega) | exact lay_dt (by omega) | exact lay_da (by omega) | exact lay_sh (by omega) | exact lay_se (by omega)) (by omega) (ix_mul rfl rfl (by omega) (by decide)) ?_
    refine v_inc3 dX9_paper_135 rfl ?_
    refine v_goto (tgt := 108) dX9_paper_138 (by decide) ?_
    rw [gr2_s _ _ _ _ (fun k => I 44 (12 * d + k)) (show gr2 J 47 (12 * d) i (fun k => I 44 (12 * d + k)) 44 (12 * d + i) = I 44 (12 * d + i) from (gr2_o _ _ _ (by decide)).trans (hJ _)), nI_1 i]
    exact ih (i + 1) (by omega)

set_option maxRecDepth 4000 in
theorem lp_papC {G : GG} {dc : Nat} {I : Nat → Nat → Int32} {L : Nat → Nat → Int64} {d n t : Nat} (hd : d < 24) (hnt : n ≤ t) (ht : I 43 d = nI t) (ht2 : t ≤ 12) : V G yX9_paper cX9_paper 4 (some .int) 1 0 0 78 [.ref 39, .int (nI d), .int (nI n), UU] [] (Mm dc I L) (Is (some (.int (nI n))) (Mm dc (mpI I d n t) L)) := by
  refine v_ald0 dX9_paper_78 ?_
  refine v_ild1 dX9_paper_79 ?_
  refine v_icN (n := 1) dX9_paper_80 (by decide) ?_
  refine v_ild2 dX9_paper_81 ?_
  refine v_V3n (c_X9_returns rfl hd) lk_X9_199 dX9_paper_82 (by decide) (Nat.le_of_ble_eq_true rfl) (by first | rfl | exact lay_door (by omega) | exact lay_dt (by omega) | exact lay_da (by omega) | exact lay_sh (by omega) | exact lay_se (by omega)) (show _ < 78 + 3 * _ by omega) ?_
  refine v_ald0 dX9_paper_85 ?_
  refine v_getP (q := 52) dX9_paper_86 fl_X9_46 (by first | rfl | exact lay_door (by omega) | exact lay_dt (by omega) | exact lay_da (by omega) | exact lay_sh (by omega) | exact lay_se (by omega)) rfl (by omega) rfl ?_
  refine v_ild1 dX9_paper_89 ?_
  refine v_ild2 dX9_paper_90 ?_
  refine v_ald0 dX9_paper_91 ?_
  refine v_getP (q := 43) dX9_paper_92 fl_X9_19 (by first | rfl | exact lay_door (by omega) | exact lay_dt (by omega) | exact lay_da (by omega) | exact lay_sh (by omega) | exact lay_se (by omega)) rfl (by omega) rfl ?_
  refine v_ild1 dX9_paper_95 ?_
  refine v_iald dX9_paper_96 (by first | rfl | exact lay_door (by omega) | exact lay_dt (by omega) | exact lay_da (by omega) | exact lay_sh (by omega) | exact lay_se (by omega)) (by omega) ⟨rfl, hd, by decide⟩ ?_
  refine v_e0 (congrArg Value.int (show _ = nI t from ((rtI_o I _ _ d (by decide) (by decide) (by decide) (by decide) (by decide)).trans ht))) ?_
  refine v_icmp_ge (tgt := 104) dX9_paper_97 (by decide) (fun h97 => ?_) (fun h97 => ?_)
  · refine v_icN (n := 0) dX9_paper_104 (by decide) ?_
    refine v_zast dX9_paper_105 (by first | rfl | exact lay_door (by omega) | exact lay_dt (by omega) | exact lay_da (by omega) | exact lay_sh (by omega) | exact lay_se (by omega)) (by omega) ⟨rfl, hd, by decide⟩ (by first | exact Or.inl rfl | exact Or.inr rfl | exact bI_01) ?_
    refine v_icN (n := 0) dX9_paper_106 (by decide) ?_
    refine v_ist3 dX9_paper_107 rfl ?_
    have hJ9 : ∀ v j, u2 (rtI I d (nI 1) (nI n)) 52 d v 44 j = I 44 j := fun v j => (u2_a _ _ _ _ (by decide)).trans (rtI_o I _ _ j (by decide) (by decide) (by decide) (by decide) (by decide))
    unfold mpI
    rw [bI_f (show ¬ n < t from fun q => nI_ge q (by omega) h97)]
    have h9 := lp_papB (G := G) (dc := dc) (L := L) hd (show n ≤ 12 by omega) (hJ9 (nI 0)) n 0 (Nat.zero_add _)
    rw [gr2_0] at h9
    exact h9
  · refine v_icN (n := 1) dX9_paper_100 (by decide) ?_
    refine v_goto (tgt := 105) dX9_paper_101 (by decide) ?_
    refine v_zast dX9_paper_105 (by first | rfl | exact lay_door (by omega) | exact lay_dt (by omega) | exact lay_da (by omega) | exact lay_sh (by omega) | exact lay_se (by omega)) (by omega) ⟨rfl, hd, by decide⟩ (by first | exact Or.inl rfl | exact Or.inr rfl | exact bI_01) ?_
    refine v_icN (n := 0) dX9_paper_106 (by decide) ?_
    refine v_ist3 dX9_paper_107 rfl ?_
    have hJ9 : ∀ v j, u2 (rtI I d (nI 1) (nI n)) 52 d v 44 j = I 44 j := fun v j => (u2_a _ _ _ _ (by decide)).trans (rtI_o I _ _ j (by decide) (by decide) (by decide) (by decide) (by decide))
    unfold mpI
    rw [bI_t (show n < t from Nat.lt_of_not_le fun q => h97 (nI_le q (by omega)))]
    have h9 := lp_papB (G := G) (dc := dc) (L := L) hd (show n ≤ 12 by omega) (hJ9 (nI 1)) n 0 (Nat.zero_add _)
    rw [gr2_0] at h9
    exact h9

theorem fzf_at {p : Nat → Bool} {i k t : Nat} (h : i + k = t) (hp : ∀ j, j < i → p j = false) : fzf p 0 t = fzf p i k := by
  induction i generalizing k with
  | zero => rw [show k = t by omega]
  | succ i ih => rw [ih (k := k + 1) (by omega) (fun j hj => hp j (by omega)), fzf_f (hp i (by omega))]

set_option maxRecDepth 4000 in
theorem lp_papA {G : GG} {dc : Nat} {I : Nat → Nat → Int32} {L : Nat → Nat → Int64} {d t : Nat} (hd : d < 24) (ht : I 43 d = nI t) (ht2 : t ≤ 12) (k : Nat) : ∀ i, i + k = t → V G yX9_paper cX9_paper 4 (some .int) 1 0 0 48 [.ref 39, .int (nI d), .int (nI i), UU] [] (Mm dc I L) (Is (some (.int (nI (fzf (pN (fun k => I 44 (12 * d + k))) i k)))) (Mm dc (mpI I d (fzf (pN (fun k => I 44 (12 * d + k))) i k) t) L)) := by
  induction k with
  | zero =>
    intro i hi
    refine v_ild2 dX9_paper_48 ?_
    refine v_ald0 dX9_paper_49 ?_
    refine v_getP (q := 43) dX9_paper_50 fl_X9_19 (by first | rfl | exact lay_door (by omega) | exact lay_dt (by omega) | exact lay_da (by omega) | exact lay_sh (by omega) | exact lay_se (by omega)) rfl (by omega) rfl ?_
    refine v_ild1 dX9_paper_53 ?_
    refine v_iald dX9_paper_54 (by first | rfl | exact lay_door (by omega) | exact lay_dt (by omega) | exact lay_da (by omega) | exact lay_sh (by omega) | exact lay_se (by omega)) (by omega) ⟨rfl, hd, by decide⟩ ?_
    refine v_e0 (congrArg Value.int ht) ?_
    refine v_icmp_ge (tgt := 78) dX9_paper_55 (by decide) (fun h55 => ?_) (fun h55 => absurd (nI_le (by omega) (by omega)) h55)
    exact lp_papC hd (show i ≤ t by omega) ht ht2
  | succ k ih =>
    intro i hi
    refine v_ild2 dX9_paper_48 ?_
    refine v_ald0 dX9_paper_49 ?_
    refine v_getP (q := 43) dX9_paper_50 fl_X9_19 (by first | rfl | exact lay_door (by omega) | exact lay_dt (by omega) | exact lay_da (by omega) | exact lay_sh (by omega) | exact lay_se (by omega)) rfl (by omega) rfl ?_
    refine v_ild1 dX9_paper_53 ?_
    refine v_iald dX9_paper_54 (by first | rfl | exact lay_door (by omega) | exact lay_dt (by omega) | exact lay_da (by omega) | exact lay_sh (by omega) | exact lay_se (by omega)) (by omega) ⟨rfl, hd, by decide⟩ ?_
    refine v_e0 (congrArg Value.int ht) ?_
    refine v_icmp_ge (tgt := 78) dX9_paper_55 (by decide) (fun h55 => absurd h55 (nI_ge (by omega) (by omega))) (fun h55 => ?_)
    refine v_ald0 dX9_paper_58 ?_
    refine v_getP (q := 44) dX9_paper_59 fl_X9_22 (by first | rfl | exact lay_door (by omega) | exact lay_dt (by omega) | exact lay_da (by omega) | exact lay_sh (by omega) | exact lay_se (by omega)) rfl (by omega) rfl ?_
    refine v_bipush (v := nI 12) dX9_paper_62 (by decide) ?_
    refine v_ild1 dX9_paper_64 ?_
    refine v_imul dX9_paper_65 ?_
    refine v_ild2 dX9_paper_66 ?_
    refine v_iadd dX9_paper_67 ?_
    refine v_iald dX9_paper_68 (by first | rfl | exact lay_door (by omega) | exact lay_dt (by omega) | exact lay_da (by omega) | exact lay_sh (by omega) | exact lay_se (by omega)) (by omega) (ix_mul rfl rfl (by omega) (by decide)) ?_
    refine v_if_lt (tgt := 78) dX9_paper_69 (by decide) (fun h69 => ?_) (fun h69 => ?_)
    · rw [fzf_t (p := (pN (fun k => I 44 (12 * d + k)))) (decide_eq_true h69)]
      exact lp_papC hd (by omega) ht ht2
    · refine v_inc2 dX9_paper_72 rfl ?_
      refine v_goto (tgt := 48) dX9_paper_75 (by decide) ?_
      rw [fzf_f (p := (pN (fun k => I 44 (12 * d + k)))) (decide_eq_false h69), nI_1 i]
      exact ih (i + 1) (by omega)

set_option maxRecDepth 4000 in
theorem c_X9_paper {G : GG} {dc : Nat} {I : Nat → Nat → Int32} {L : Nat → Nat → Int64} {b : Int32} (hW : Wm dc I) : Cn G yX9_paper cX9_paper 4 (some .int) 1 0 0 [.ref 39, .int b] (Mm dc I L) (Is (some (.int (oR (mPap dc I b) (nI (fzf (pN (fun k => I 44 (12 * tn b + k))) 0 (tn (I 43 (tn b)))))))) (pM (mPap dc I b) dc I L (Mm dc (mpI I (tn b) (fzf (pN (fun k => I 44 (12 * tn b + k))) 0 (tn (I 43 (tn b)))) (tn (I 43 (tn b)))) (L)))) := by
  refine Cn.of' (by decide) (Nat.le_of_ble_eq_true rfl) rfl ?_
  refine v_ald0 dX9_paper_0 ?_
  refine v_ild1 dX9_paper_1 ?_
  refine v_V1 (c_mDoor hW) lk_X9_172 dX9_paper_2 (by decide) (Nat.le_of_ble_eq_true rfl) (by first | rfl | exact lay_door (by omega) | exact lay_dt (by omega) | exact lay_da (by omega) | exact lay_sh (by omega) | exact lay_se (by omega)) (show _ < 78 + 3 * _ by omega) ?_
  refine v_ifne_b (tgt := 14) dX9_paper_5 (by decide) (fun h5 => ?_) (fun h5 => ?_)
  · have hd9 := tn_lt rfl (by have := hW.1; omega) h5
    have hc9 := hW.1
    have hd8 : tn b < 24 := by omega
    obtain ⟨hw0, hw1, hw3, hw6⟩ := hW.2.2.2 _ hd9.1
    refine v_ald0 dX9_paper_14 ?_
    refine v_getI dX9_paper_15 fl_X9_158 (by first | rfl | exact lay_door (by omega) | exact lay_dt (by omega) | exact lay_da (by omega) | exact lay_sh (by omega) | exact lay_se (by omega)) rfl (by omega) ?_
    refine v_if_ne (tgt := 39) dX9_paper_18 (by decide) (fun h18 => ?_) (fun h18 => ?_)
    · refine v_ald0 dX9_paper_39 ?_
      refine v_bipush (v := -6) dX9_paper_40 (by decide) ?_
      refine v_V1 (c_X9_no (k := 6) (by decide) (by decide) (by decide)) lk_X9_146 dX9_paper_42 (by decide) (Nat.le_of_ble_eq_true rfl) (by first | rfl | exact lay_door (by omega) | exact lay_dt (by omega) | exact lay_da (by omega) | exact lay_sh (by omega) | exact lay_se (by omega)) (show _ < 78 + 3 * _ by omega) ?_
      exact v_retI dX9_paper_45 trivial (by simp only [mPap, if_pos h5, if_neg h18]; exact ⟨rfl, rfl⟩)
    · refine v_ald0 dX9_paper_21 ?_
      refine v_ild1 dX9_paper_22 ?_
      refine v_V1 (c_X9_isToBeAsked hd9.2 hd8) lk_X9_196 dX9_paper_23 (by decide) (Nat.le_of_ble_eq_true rfl) (by first | rfl | exact lay_door (by omega) | exact lay_dt (by omega) | exact lay_da (by omega) | exact lay_sh (by omega) | exact lay_se (by omega)) (show _ < 78 + 3 * _ by omega) ?_
      refine v_ifeq_b (tgt := 39) dX9_paper_26 (by decide) (fun h26 => ?_) (fun h26 => ?_)
      · refine v_ald0 dX9_paper_39 ?_
        refine v_bipush (v := -6) dX9_paper_40 (by decide) ?_
        refine v_V1 (c_X9_no (k := 6) (by decide) (by decide) (by decide)) lk_X9_146 dX9_paper_42 (by decide) (Nat.le_of_ble_eq_true rfl) (by first | rfl | exact lay_door (by omega) | exact lay_dt (by omega) | exact lay_da (by omega) | exact lay_sh (by omega) | exact lay_se (by omega)) (show _ < 78 + 3 * _ by omega) ?_
        exact v_retI dX9_paper_45 trivial (by simp only [mPap, if_pos h5, if_pos h18, if_neg h26]; exact ⟨rfl, rfl⟩)
      · refine v_ald0 dX9_paper_29 ?_
        refine v_getP (q := 45) dX9_paper_30 fl_X9_25 (by first | rfl | exact lay_door (by omega) | exact lay_dt (by omega) | exact lay_da (by omega) | exact lay_sh (by omega) | exact lay_se (by omega)) rfl (by omega) rfl ?_
        refine v_ild1 dX9_paper_33 ?_
        refine v_iald dX9_paper_34 (by first | rfl | exact lay_door (by omega) | exact lay_dt (by omega) | exact lay_da (by omega) | exact lay_sh (by omega) | exact lay_se (by omega)) (by omega) ⟨hd9.2, hd8, by decide⟩ ?_
        refine v_icN (n := 1) dX9_paper_35 (by decide) ?_
        refine v_icmp_ne (tgt := 46) dX9_paper_36 (by decide) (fun h36 => ?_) (fun h36 => ?_)
        · refine v_icN (n := 0) dX9_paper_46 (by decide) ?_
          refine v_ist2 dX9_paper_47 rfl ?_
          simp only [mPap, if_pos h5, if_pos h18, if_pos h26, if_neg h36]
          have h9 := lp_papA (G := G) (dc := dc) (L := L) hd8 hw3.1 hw3.2 _ 0 (Nat.zero_add _)
          rw [← hd9.2] at h9
          exact h9
        · refine v_ald0 dX9_paper_39 ?_
          refine v_bipush (v := -6) dX9_paper_40 (by decide) ?_
          refine v_V1 (c_X9_no (k := 6) (by decide) (by decide) (by decide)) lk_X9_146 dX9_paper_42 (by decide) (Nat.le_of_ble_eq_true rfl) (by first | rfl | exact lay_door (by omega) | exact lay_dt (by omega) | exact lay_da (by omega) | exact lay_sh (by omega) | exact lay_se (by omega)) (show _ < 78 + 3 * _ by omega) ?_
          exact v_retI dX9_paper_45 trivial (by simp only [mPap, if_pos h5, if_pos h18, if_pos h26, if_pos h36]; exact ⟨rfl, rfl⟩)
  · refine v_ald0 dX9_paper_8 ?_
    refine v_icm1 dX9_paper_9 ?_
    refine v_V1 (c_X9_no (k := 1) (by decide) (by decide) (by decide)) lk_X9_146 dX9_paper_10 (by decide) (Nat.le_of_ble_eq_true rfl) (by first | rfl | exact lay_door (by omega) | exact lay_dt (by omega) | exact lay_da (by omega) | exact lay_sh (by omega) | exact lay_se (by omega)) (show _ < 78 + 3 * _ by omega) ?_
    exact v_retI dX9_paper_13 trivial (by simp only [mPap, if_neg h5]; exact ⟨rfl, rfl⟩)

def mKno (dc : Nat) (I : Nat → Nat → Int32) (b u : Int32) : Nat := if inR b dc then (if inR u 10 then (if I 39 22 = 0 then (if mba I (tn b) then (if I 48 (tn b) < I 39 18 then 0 else 6) else 6) else 6) else 6) else 1
/-- where a knock is counted -/
abbrev kq (I : Nat → Nat → Int32) (d : Nat) (u : Int32) : Nat := 10 * tn (I 41 d) + tn u
def mkJ (I : Nat → Nat → Int32) (d : Nat) (u : Int32) : Nat → Nat → Int32 := u2 (u2 I 48 d (I 48 d + nI 1)) 57 (kq I d u) (I 57 (kq I d u) + nI 1)
def mkK (I : Nat → Nat → Int32) (d : Nat) (u : Int32) : Nat → Nat → Int32 := rtI (u2 (mkJ I d u) 58 (kq I d u) (I 58 (kq I d u) + nI 1)) d (nI 2) (I 43 d)
def mkI' (I : Nat → Nat → Int32) (d t : Nat) (u : Int32) : Nat → Nat → Int32 := if ((I 42 d >>> (u &&& 31)) &&& nI 1) = 0 then mkJ I d u else gr2 (mkK I d u) 47 (12 * d) t (fun k => I 44 (12 * d + k))
theorem mkK_o (I : Nat → Nat → Int32) (d : Nat) (u : Int32) {x : Nat} (j : Nat) (h : x = 43 ∨ x = 44) : mkK I d u x j = I x j := by
  unfold mkK
  rw [rtI_o _ _ _ _ (by omega) (by omega) (by omega) (by omega) (by omega), u2_a _ _ _ _ (by omega)]
  unfold mkJ
  rw [u2_a _ _ _ _ (by omega), u2_a _ _ _ _ (by omega)]

set_option maxRecDepth 4000 in
theorem lp_kno {G : GG} {dc : Nat} {I : Nat → Nat → Int32} {L : Nat → Nat → Int64} {d t : Nat} {u : Int32} (hd : d < 24) (ht : I 43 d = nI t) (ht2 : t ≤ 12) (k : Nat) : ∀ i, i + k = t → V G yX9_knock cX9_knock 4 (some .int) 1 0 0 140 [.ref 39, .int (nI d), .int u, .int (nI i)] [] (Mm dc (gr2 (mkK I d u) 47 (12 * d) i (fun k => I 44 (12 * d + k))) L) (Is (some (.int (nI 1))) (Mm dc (gr2 (mkK I d u) 47 (12 * d) t (fun k => I 44 (12 * d + k))) L)) := by
  induction k with
  | zero =>
    intro i hi
    refine v_ild3 dX9_knock_140 ?_
    refine v_ald0 dX9_knock_141 ?_
    refine v_getP (q := 43) dX9_knock_142 fl_X9_19 (by first | rfl | exact lay_door (by omega) | exact lay_dt (by omega) | exact lay_da (by omega) | exact lay_sh (by omega) | exact lay_se (by omega)) rfl (by omega) rfl ?_
    refine v_ild1 dX9_knock_145 ?_
    refine v_iald dX9_knock_146 (by first | rfl | exact lay_door (by omega) | exact lay_dt (by omega) | exact lay_da (by omega) | exact lay_sh (by omega) | exact lay_se (by omega)) (by omega) ⟨rfl, hd, by decide⟩ ?_
    refine v_e0 (congrArg Value.int (show gr2 (mkK I d u) 47 (12 * d) i (fun k => I 44 (12 * d + k)) 43 d = nI t from ((gr2_o _ _ _ (by decide)).trans (mkK_o I d u _ (Or.inl rfl))).trans ht)) ?_
    refine v_icmp_ge (tgt := 178) dX9_knock_147 (by decide) (fun h147 => ?_) (fun h147 => absurd (nI_le (by omega) (by omega)) h147)
    refine v_icN (n := 1) dX9_knock_178 (by decide) ?_
    exact v_retI dX9_knock_179 trivial (by rw [show i = t by omega]; exact ⟨rfl, rfl⟩)
  | succ k ih =>
    intro i hi
    refine v_ild3 dX9_knock_140 ?_
    refine v_ald0 dX9_knock_141 ?_
    refine v_getP (q := 43) dX9_knock_142 fl_X9_19 (by first | rfl | exact lay_door (by omega) | exact lay_dt (by omega) | exact lay_da (by omega) | exact lay_sh (by omega) | exact lay_se (by omega)) rfl (by omega) rfl ?_
    refine v_ild1 dX9_knock_145 ?_
    refine v_iald dX9_knock_146 (by first | rfl | exact lay_door (by omega) | exact lay_dt (by omega) | exact lay_da (by omega) | exact lay_sh (by omega) | exact lay_se (by omega)) (by omega) ⟨rfl, hd, by decide⟩ ?_
    refine v_e0 (congrArg Value.int (show gr2 (mkK I d u) 47 (12 * d) i (fun k => I 44 (12 * d + k)) 43 d = nI t from ((gr2_o _ _ _ (by decide)).trans (mkK_o I d u _ (Or.inl rfl))).trans ht)) ?_
    refine v_icmp_ge (tgt := 178) dX9_knock_147 (by decide) (fun h147 => absurd h147 (nI_ge (by omega) (by omega))) (fun h147 => ?_)
    refine v_ald0 dX9_knock_150 ?_
    refine v_getP (q := 47) dX9_knock_151 fl_X9_31 (by first | rfl | exact lay_door (by omega) | exact lay_dt (by omega) | exact lay_da (by omega) | exact lay_sh (by omega) | exact lay_se (by omega)) rfl (by omega) rfl ?_
    refine v_bipush (v := nI 12) dX9_knock_154 (by decide) ?_
    refine v_ild1 dX9_knock_156 ?_
    refine v_imul dX9_knock_157 ?_
    refine v_ild3 dX9_knock_158 ?_
    refine v_iadd dX9_knock_159 ?_
    refine v_ald0 dX9_knock_160 ?_
    refine v_getP (q := 44) dX9_knock_161 fl_X9_22 (by first | rfl | exact lay_door (by omega) | exact lay_dt (by omega) | exact lay_da (by omega) | exact lay_sh (by omega) | exact lay_se (by omega)) rfl (by omega) rfl ?_
    refine v_bipush (v := nI 12) dX9_knock_164 (by decide) ?_
    refine v_ild1 dX9_knock_166 ?_
    refine v_imul dX9_knock_167 ?_
    refine v_ild3 dX9_knock_168 ?_
    refine v_iadd dX9_knock_169 ?_
    refine v_iald dX9_knock_170 (by first | rfl | exact lay_door (by omega) | exact lay_dt (by omega) | exact lay_da (by omega) | exact lay_sh (by omega) | exact lay_se (by omega)) (by omega) (ix_mul rfl rfl (by omega) (by decide)) ?_
    refine v_iast dX9_knock_171 (by first | rfl | exact lay_door (by omega) | exact lay_dt (by omega) | exact lay_da (by omega) | exact lay_sh (by omega) | exact lay_se (by omega)) (by omega) (ix_mul rfl rfl (by omega) (by decide)) ?_
    refine v_inc3 dX9_knock_172 rfl ?_
    refine v_goto (tgt := 140) dX9_knock_175 (by decide) ?_
    rw [gr2_s _ _ _ _ (fun k => I 44 (12 * d + k)) (show gr2 (mkK I d u) 47 (12 * d) i (fun k => I 44 (12 * d + k)) 44 (12 * d + i) = I 44 (12 * d + i) from (gr2_o _ _ _ (by decide)).trans (mkK_o I d u _ (Or.inr rfl))), nI_1 i]
    exact ih (i + 1) (by omega)

set_option maxRecDepth 4000 in
theorem c_X9_knock {G : GG} {dc : Nat} {I : Nat → Nat → Int32} {L : Nat → Nat → Int64} {b u : Int32} (hW : Wm dc I) : Cn G yX9_knock cX9_knock 4 (some .int) 1 0 0 [.ref 39, .int b, .int u] (Mm dc I L) (Is (some (.int (oR (mKno dc I b u) (bI (¬ ((I 42 (tn b) >>> (u &&& 31)) &&& nI 1) = 0))))) (pM (mKno dc I b u) dc I L (Mm dc (mkI' I (tn b) (tn (I 43 (tn b))) u) (L)))) := by
  refine Cn.of' (by decide) (Nat.le_of_ble_eq_true rfl) rfl ?_
  refine v_ald0 dX9_knock_0 ?_
  refine v_ild1 dX9_knock_1 ?_
  refine v_V1 (c_mDoor hW) lk_X9_172 dX9_knock_2 (by decide) (Nat.le_of_ble_eq_true rfl) (by first | rfl | exact lay_door (by omega) | exact lay_dt (by omega) | exact lay_da (by omega) | exact lay_sh (by omega) | exact lay_se (by omega)) (show _ < 78 + 3 * _ by omega) ?_
  refine v_ifne_b (tgt := 14) dX9_knock_5 (by decide) (fun h5 => ?_) (fun h5 => ?_)
  · have hd9 := tn_lt rfl (by have := hW.1; omega) h5
    have hc9 := hW.1
    have hd8 : tn b < 24 := by omega
    obtain ⟨hw0, hw1, hw3, hw6⟩ := hW.2.2.2 _ hd9.1
    refine v_ild2 dX9_knock_14 ?_
    refine v_i2l dX9_knock_15 ?_
    refine v_lcN0 dX9_knock_16 ?_
    refine v_ldc2 dX9_knock_17 kc_X9_203 ?_
    refine v_S3 (c_isInR 9 (by decide) (by decide) (by decide)) lk_X9_152 dX9_knock_20 (by decide) (Nat.le_of_ble_eq_true rfl) ?_
    refine v_ifeq_b (tgt := 54) dX9_knock_23 (by decide) (fun h23 => ?_) (fun h23 => ?_)
    · refine v_ald0 dX9_knock_54 ?_
      refine v_bipush (v := -6) dX9_knock_55 (by decide) ?_
      refine v_V1 (c_X9_no (k := 6) (by decide) (by decide) (by decide)) lk_X9_146 dX9_knock_57 (by decide) (Nat.le_of_ble_eq_true rfl) (by first | rfl | exact lay_door (by omega) | exact lay_dt (by omega) | exact lay_da (by omega) | exact lay_sh (by omega) | exact lay_se (by omega)) (show _ < 78 + 3 * _ by omega) ?_
      exact v_retI dX9_knock_60 trivial (by simp only [mKno, if_pos h5, if_neg h23]; exact ⟨rfl, rfl⟩)
    · refine v_ald0 dX9_knock_26 ?_
      refine v_getI dX9_knock_27 fl_X9_158 (by first | rfl | exact lay_door (by omega) | exact lay_dt (by omega) | exact lay_da (by omega) | exact lay_sh (by omega) | exact lay_se (by omega)) rfl (by omega) ?_
      refine v_if_ne (tgt := 54) dX9_knock_30 (by decide) (fun h30 => ?_) (fun h30 => ?_)
      · refine v_ald0 dX9_knock_54 ?_
        refine v_bipush (v := -6) dX9_knock_55 (by decide) ?_
        refine v_V1 (c_X9_no (k := 6) (by decide) (by decide) (by decide)) lk_X9_146 dX9_knock_57 (by decide) (Nat.le_of_ble_eq_true rfl) (by first | rfl | exact lay_door (by omega) | exact lay_dt (by omega) | exact lay_da (by omega) | exact lay_sh (by omega) | exact lay_se (by omega)) (show _ < 78 + 3 * _ by omega) ?_
        exact v_retI dX9_knock_60 trivial (by simp only [mKno, if_pos h5, if_pos h23, if_neg h30]; exact ⟨rfl, rfl⟩)
      · refine v_ald0 dX9_knock_33 ?_
        refine v_ild1 dX9_knock_34 ?_
        refine v_V1 (c_X9_isToBeAsked hd9.2 hd8) lk_X9_196 dX9_knock_35 (by decide) (Nat.le_of_ble_eq_true rfl) (by first | rfl | exact lay_door (by omega) | exact lay_dt (by omega) | exact lay_da (by omega) | exact lay_sh (by omega) | exact lay_se (by omega)) (show _ < 78 + 3 * _ by omega) ?_
        refine v_ifeq_b (tgt := 54) dX9_knock_38 (by decide) (fun h38 => ?_) (fun h38 => ?_)
        · refine v_ald0 dX9_knock_54 ?_
          refine v_bipush (v := -6) dX9_knock_55 (by decide) ?_
          refine v_V1 (c_X9_no (k := 6) (by decide) (by decide) (by decide)) lk_X9_146 dX9_knock_57 (by decide) (Nat.le_of_ble_eq_true rfl) (by first | rfl | exact lay_door (by omega) | exact lay_dt (by omega) | exact lay_da (by omega) | exact lay_sh (by omega) | exact lay_se (by omega)) (show _ < 78 + 3 * _ by omega) ?_
          exact v_retI dX9_knock_60 trivial (by simp only [mKno, if_pos h5, if_pos h23, if_pos h30, if_neg h38]; exact ⟨rfl, rfl⟩)
        · refine v_ald0 dX9_knock_41 ?_
          refine v_getP (q := 48) dX9_knock_42 fl_X9_34 (by first | rfl | exact lay_door (by omega) | exact lay_dt (by omega) | exact lay_da (by omega) | exact lay_sh (by omega) | exact lay_se (by omega)) rfl (by omega) rfl ?_
          refine v_ild1 dX9_knock_45 ?_
          refine v_iald dX9_knock_46 (by first | rfl | exact lay_door (by omega) | exact lay_dt (by omega) | exact lay_da (by omega) | exact lay_sh (by omega) | exact lay_se (by omega)) (by omega) ⟨hd9.2, hd8, by decide⟩ ?_
          refine v_ald0 dX9_knock_47 ?_
          refine v_getI dX9_knock_48 fl_X9_62 (by first | rfl | exact lay_door (by omega) | exact lay_dt (by omega) | exact lay_da (by omega) | exact lay_sh (by omega) | exact lay_se (by omega)) rfl (by omega) ?_
          refine v_icmp_lt (tgt := 61) dX9_knock_51 (by decide) (fun h51 => ?_) (fun h51 => ?_)
          · have hu9 := ix_R (by decide) h23
            refine v_ald0 dX9_knock_61 ?_
            refine v_getP (q := 48) dX9_knock_62 fl_X9_34 (by first | rfl | exact lay_door (by omega) | exact lay_dt (by omega) | exact lay_da (by omega) | exact lay_sh (by omega) | exact lay_se (by omega)) rfl (by omega) rfl ?_
            refine v_ild1 dX9_knock_65 ?_
            refine v_dup2 dX9_knock_66 ?_
            refine v_iald dX9_knock_67 (by first | rfl | exact lay_door (by omega) | exact lay_dt (by omega) | exact lay_da (by omega) | exact lay_sh (by omega) | exact lay_se (by omega)) (by omega) ⟨hd9.2, hd8, by decide⟩ ?_
            refine v_icN (n := 1) dX9_knock_68 (by decide) ?_
            refine v_iadd dX9_knock_69 ?_
            refine v_iast dX9_knock_70 (by first | rfl | exact lay_door (by omega) | exact lay_dt (by omega) | exact lay_da (by omega) | exact lay_sh (by omega) | exact lay_se (by omega)) (by omega) ⟨hd9.2, hd8, by decide⟩ ?_
            refine v_ald0 dX9_knock_71 ?_
            refine v_getP (q := 57) dX9_knock_72 fl_X9_75 (by first | rfl | exact lay_door (by omega) | exact lay_dt (by omega) | exact lay_da (by omega) | exact lay_sh (by omega) | exact lay_se (by omega)) rfl (by omega) rfl ?_
            refine v_bipush (v := nI 10) dX9_knock_75 (by decide) ?_
            refine v_ald0 dX9_knock_77 ?_
            refine v_getP (q := 41) dX9_knock_78 fl_X9_13 (by first | rfl | exact lay_door (by omega) | exact lay_dt (by omega) | exact lay_da (by omega) | exact lay_sh (by omega) | exact lay_se (by omega)) rfl (by omega) rfl ?_
            refine v_ild1 dX9_knock_81 ?_
            refine v_iald dX9_knock_82 (by first | rfl | exact lay_door (by omega) | exact lay_dt (by omega) | exact lay_da (by omega) | exact lay_sh (by omega) | exact lay_se (by omega)) (by omega) ⟨hd9.2, hd8, by decide⟩ ?_
            refine v_imul dX9_knock_83 ?_
            refine v_ild2 dX9_knock_84 ?_
            refine v_iadd dX9_knock_85 ?_
            refine v_dup2 dX9_knock_86 ?_
            refine v_iald dX9_knock_87 (by first | rfl | exact lay_door (by omega) | exact lay_dt (by omega) | exact lay_da (by omega) | exact lay_sh (by omega) | exact lay_se (by omega)) (by omega) (ix_mul (show I 41 (tn b) = nI (tn (I 41 (tn b))) from hw1.1) hu9.1 (by have := hw1.2; have := hu9.2.1; omega) (by decide)) ?_
            refine v_icN (n := 1) dX9_knock_88 (by decide) ?_
            refine v_iadd dX9_knock_89 ?_
            refine v_iast dX9_knock_90 (by first | rfl | exact lay_door (by omega) | exact lay_dt (by omega) | exact lay_da (by omega) | exact lay_sh (by omega) | exact lay_se (by omega)) (by omega) (ix_mul (show I 41 (tn b) = nI (tn (I 41 (tn b))) from hw1.1) hu9.1 (by have := hw1.2; have := hu9.2.1; omega) (by decide)) ?_
            refine v_ald0 dX9_knock_91 ?_
            refine v_getP (q := 42) dX9_knock_92 fl_X9_16 (by first | rfl | exact lay_door (by omega) | exact lay_dt (by omega) | exact lay_da (by omega) | exact lay_sh (by omega) | exact lay_se (by omega)) rfl (by omega) rfl ?_
            refine v_ild1 dX9_knock_95 ?_
            refine v_iald dX9_knock_96 (by first | rfl | exact lay_door (by omega) | exact lay_dt (by omega) | exact lay_da (by omega) | exact lay_sh (by omega) | exact lay_se (by omega)) (by omega) ⟨hd9.2, hd8, by decide⟩ ?_
            refine v_ild2 dX9_knock_97 ?_
            refine v_ishr dX9_knock_98 ?_
            refine v_icN (n := 1) dX9_knock_99 (by decide) ?_
            refine v_iand dX9_knock_100 ?_
            refine v_if_ne (tgt := 106) dX9_knock_101 (by decide) (fun h101 => ?_) (fun h101 => ?_)
            · refine v_ald0 dX9_knock_106 ?_
              refine v_getP (q := 58) dX9_knock_107 fl_X9_78 (by first | rfl | exact lay_door (by omega) | exact lay_dt (by omega) | exact lay_da (by omega) | exact lay_sh (by omega) | exact lay_se (by omega)) rfl (by omega) rfl ?_
              refine v_bipush (v := nI 10) dX9_knock_110 (by decide) ?_
              refine v_ald0 dX9_knock_112 ?_
              refine v_getP (q := 41) dX9_knock_113 fl_X9_13 (by first | rfl | exact lay_door (by omega) | exact lay_dt (by omega) | exact lay_da (by omega) | exact lay_sh (by omega) | exact lay_se (by omega)) rfl (by omega) rfl ?_
              refine v_ild1 dX9_knock_116 ?_
              refine v_iald dX9_knock_117 (by first | rfl | exact lay_door (by omega) | exact lay_dt (by omega) | exact lay_da (by omega) | exact lay_sh (by omega) | exact lay_se (by omega)) (by omega) ⟨hd9.2, hd8, by decide⟩ ?_
              refine v_imul dX9_knock_118 ?_
              refine v_ild2 dX9_knock_119 ?_
              refine v_iadd dX9_knock_120 ?_
              refine v_dup2 dX9_knock_121 ?_
              refine v_iald dX9_knock_122 (by first | rfl | exact lay_door (by omega) | exact lay_dt (by omega) | exact lay_da (by omega) | exact lay_sh (by omega) | exact lay_se (by omega)) (by omega) (ix_mul (show I 41 (tn b) = nI (tn (I 41 (tn b))) from hw1.1) hu9.1 (by have := hw1.2; have := hu9.2.1; omega) (by decide)) ?_
              refine v_icN (n := 1) dX9_knock_123 (by decide) ?_
              refine v_iadd dX9_knock_124 ?_
              refine v_iast dX9_knock_125 (by first | rfl | exact lay_door (by omega) | exact lay_dt (by omega) | exact lay_da (by omega) | exact lay_sh (by omega) | exact lay_se (by omega)) (by omega) (ix_mul (show I 41 (tn b) = nI (tn (I 41 (tn b))) from hw1.1) hu9.1 (by have := hw1.2; have := hu9.2.1; omega) (by decide)) ?_
              refine v_ald0 dX9_knock_126 ?_
              refine v_ild1 dX9_knock_127 ?_
              refine v_icN (n := 2) dX9_knock_128 (by decide) ?_
              refine v_ald0 dX9_knock_129 ?_
              refine v_getP (q := 43) dX9_knock_130 fl_X9_19 (by first | rfl | exact lay_door (by omega) | exact lay_dt (by omega) | exact lay_da (by omega) | exact lay_sh (by omega) | exact lay_se (by omega)) rfl (by omega) rfl ?_
              refine v_ild1 dX9_knock_133 ?_
              refine v_iald dX9_knock_134 (by first | rfl | exact lay_door (by omega) | exact lay_dt (by omega) | exact lay_da (by omega) | exact lay_sh (by omega) | exact lay_se (by omega)) (by omega) ⟨hd9.2, hd8, by decide⟩ ?_
              refine v_V3n (c_X9_returns hd9.2 hd8) lk_X9_199 dX9_knock_135 (by decide) (Nat.le_of_ble_eq_true rfl) (by first | rfl | exact lay_door (by omega) | exact lay_dt (by omega) | exact lay_da (by omega) | exact lay_sh (by omega) | exact lay_se (by omega)) (show _ < 78 + 3 * _ by omega) ?_
              refine v_icN (n := 0) dX9_knock_138 (by decide) ?_
              refine v_ist3 dX9_knock_139 rfl ?_
              have h101 : ¬ ((I 42 (tn b) >>> (u &&& 31)) &&& nI 1) = 0 := h101
              simp only [mKno, if_pos h5, if_pos h23, if_pos h30, if_pos h38, if_pos h51]
              rw [oR0, pM0, bI_t h101, mkI', if_neg h101]
              have h9 := lp_kno (G := G) (dc := dc) (L := L) (u := u) hd8 hw3.1 hw3.2 _ 0 (Nat.zero_add _)
              rw [gr2_0, ← hd9.2] at h9
              exact h9
            · refine v_icN (n := 0) dX9_knock_104 (by decide) ?_
              exact v_retI dX9_knock_105 trivial (by simp only [mKno, if_pos h5, if_pos h23, if_pos h30, if_pos h38, if_pos h51]; have h101 : ((I 42 (tn b) >>> (u &&& 31)) &&& nI 1) = 0 := h101; rw [bI_f (fun q => q h101), mkI', if_pos h101]; exact ⟨rfl, rfl⟩)
          · refine v_ald0 dX9_knock_54 ?_
            refine v_bipush (v := -6) dX9_knock_55 (by decide) ?_
            refine v_V1 (c_X9_no (k := 6) (by decide) (by decide) (by decide)) lk_X9_146 dX9_knock_57 (by decide) (Nat.le_of_ble_eq_true rfl) (by first | rfl | exact lay_door (by omega) | exact lay_dt (by omega) | exact lay_da (by omega) | exact lay_sh (by omega) | exact lay_se (by omega)) (show _ < 78 + 3 * _ by omega) ?_
            exact v_retI dX9_knock_60 trivial (by simp only [mKno, if_pos h5, if_pos h23, if_pos h30, if_pos h38, if_neg h51]; exact ⟨rfl, rfl⟩)
  · refine v_ald0 dX9_knock_8 ?_
    refine v_icm1 dX9_knock_9 ?_
    refine v_V1 (c_X9_no (k := 1) (by decide) (by decide) (by decide)) lk_X9_146 dX9_knock_10 (by decide) (Nat.le_of_ble_eq_true rfl) (by first | rfl | exact lay_door (by omega) | exact lay_dt (by omega) | exact lay_da (by omega) | exact lay_sh (by omega) | exact lay_se (by omega)) (show _ < 78 + 3 * _ by omega) ?_
    exact v_retI dX9_knock_13 trivial (by simp only [mKno, if_neg h5]; exact ⟨rfl, rfl⟩)

def mPro (dc : Nat) (I : Nat → Nat → Int32) (b n : Int32) : Nat := if inR b dc then (if inR n 13 then (if I 39 22 = 0 then (if mba I (tn b) then (if I 45 (tn b) = nI 3 then 6 else (if I 39 19 ≤ I 48 (tn b) then 0 else 6)) else 6) else 6) else 6) else 1

set_option maxRecDepth 4000 in
theorem c_X9_proxy {G : GG} {dc : Nat} {I : Nat → Nat → Int32} {L : Nat → Nat → Int64} {b n : Int32} (hW : Wm dc I) : Cn G yX9_proxy cX9_proxy 3 (some .int) 1 0 0 [.ref 39, .int b, .int n] (Mm dc I L) (Is (some (.int (oR (mPro dc I b n) n))) (pM (mPro dc I b n) dc I L (Mm dc (rtI I (tn b) (nI 3) n) (L)))) := by
  refine Cn.of' (by decide) (Nat.le_of_ble_eq_true rfl) rfl ?_
  refine v_ald0 dX9_proxy_0 ?_
  refine v_ild1 dX9_proxy_1 ?_
  refine v_V1 (c_mDoor hW) lk_X9_172 dX9_proxy_2 (by decide) (Nat.le_of_ble_eq_true rfl) (by first | rfl | exact lay_door (by omega) | exact lay_dt (by omega) | exact lay_da (by omega) | exact lay_sh (by omega) | exact lay_se (by omega)) (show _ < 78 + 3 * _ by omega) ?_
  refine v_ifne_b (tgt := 14) dX9_proxy_5 (by decide) (fun h5 => ?_) (fun h5 => ?_)
  · have hd9 := tn_lt rfl (by have := hW.1; omega) h5
    have hc9 := hW.1
    have hd8 : tn b < 24 := by omega
    obtain ⟨hw0, hw1, hw3, hw6⟩ := hW.2.2.2 _ hd9.1
    refine v_ild2 dX9_proxy_14 ?_
    refine v_i2l dX9_proxy_15 ?_
    refine v_lcN0 dX9_proxy_16 ?_
    refine v_ldc2 dX9_proxy_17 kc_X9_205 ?_
    refine v_S3 (c_isInR 12 (by decide) (by decide) (by decide)) lk_X9_152 dX9_proxy_20 (by decide) (Nat.le_of_ble_eq_true rfl) ?_
    refine v_ifeq_b (tgt := 64) dX9_proxy_23 (by decide) (fun h23 => ?_) (fun h23 => ?_)
    · refine v_ald0 dX9_proxy_64 ?_
      refine v_bipush (v := -6) dX9_proxy_65 (by decide) ?_
      refine v_V1 (c_X9_no (k := 6) (by decide) (by decide) (by decide)) lk_X9_146 dX9_proxy_67 (by decide) (Nat.le_of_ble_eq_true rfl) (by first | rfl | exact lay_door (by omega) | exact lay_dt (by omega) | exact lay_da (by omega) | exact lay_sh (by omega) | exact lay_se (by omega)) (show _ < 78 + 3 * _ by omega) ?_
      exact v_retI dX9_proxy_70 trivial (by simp only [mPro, if_pos h5, if_neg h23]; exact ⟨rfl, rfl⟩)
    · refine v_ald0 dX9_proxy_26 ?_
      refine v_getI dX9_proxy_27 fl_X9_158 (by first | rfl | exact lay_door (by omega) | exact lay_dt (by omega) | exact lay_da (by omega) | exact lay_sh (by omega) | exact lay_se (by omega)) rfl (by omega) ?_
      refine v_if_ne (tgt := 64) dX9_proxy_30 (by decide) (fun h30 => ?_) (fun h30 => ?_)
      · refine v_ald0 dX9_proxy_64 ?_
        refine v_bipush (v := -6) dX9_proxy_65 (by decide) ?_
        refine v_V1 (c_X9_no (k := 6) (by decide) (by decide) (by decide)) lk_X9_146 dX9_proxy_67 (by decide) (Nat.le_of_ble_eq_true rfl) (by first | rfl | exact lay_door (by omega) | exact lay_dt (by omega) | exact lay_da (by omega) | exact lay_sh (by omega) | exact lay_se (by omega)) (show _ < 78 + 3 * _ by omega) ?_
        exact v_retI dX9_proxy_70 trivial (by simp only [mPro, if_pos h5, if_pos h23, if_neg h30]; exact ⟨rfl, rfl⟩)
      · refine v_ald0 dX9_proxy_33 ?_
        refine v_ild1 dX9_proxy_34 ?_
        refine v_V1 (c_X9_isToBeAsked hd9.2 hd8) lk_X9_196 dX9_proxy_35 (by decide) (Nat.le_of_ble_eq_true rfl) (by first | rfl | exact lay_door (by omega) | exact lay_dt (by omega) | exact lay_da (by omega) | exact lay_sh (by omega) | exact lay_se (by omega)) (show _ < 78 + 3 * _ by omega) ?_
        refine v_ifeq_b (tgt := 64) dX9_proxy_38 (by decide) (fun h38 => ?_) (fun h38 => ?_)
        · refine v_ald0 dX9_proxy_64 ?_
          refine v_bipush (v := -6) dX9_proxy_65 (by decide) ?_
          refine v_V1 (c_X9_no (k := 6) (by decide) (by decide) (by decide)) lk_X9_146 dX9_proxy_67 (by decide) (Nat.le_of_ble_eq_true rfl) (by first | rfl | exact lay_door (by omega) | exact lay_dt (by omega) | exact lay_da (by omega) | exact lay_sh (by omega) | exact lay_se (by omega)) (show _ < 78 + 3 * _ by omega) ?_
          exact v_retI dX9_proxy_70 trivial (by simp only [mPro, if_pos h5, if_pos h23, if_pos h30, if_neg h38]; exact ⟨rfl, rfl⟩)
        · refine v_ald0 dX9_proxy_41 ?_
          refine v_getP (q := 45) dX9_proxy_42 fl_X9_25 (by first | rfl | exact lay_door (by omega) | exact lay_dt (by omega) | exact lay_da (by omega) | exact lay_sh (by omega) | exact lay_se (by omega)) rfl (by omega) rfl ?_
          refine v_ild1 dX9_proxy_45 ?_
          refine v_iald dX9_proxy_46 (by first | rfl | exact lay_door (by omega) | exact lay_dt (by omega) | exact lay_da (by omega) | exact lay_sh (by omega) | exact lay_se (by omega)) (by omega) ⟨hd9.2, hd8, by decide⟩ ?_
          refine v_icN (n := 3) dX9_proxy_47 (by decide) ?_
          refine v_icmp_eq (tgt := 64) dX9_proxy_48 (by decide) (fun h48 => ?_) (fun h48 => ?_)
          · refine v_ald0 dX9_proxy_64 ?_
            refine v_bipush (v := -6) dX9_proxy_65 (by decide) ?_
            refine v_V1 (c_X9_no (k := 6) (by decide) (by decide) (by decide)) lk_X9_146 dX9_proxy_67 (by decide) (Nat.le_of_ble_eq_true rfl) (by first | rfl | exact lay_door (by omega) | exact lay_dt (by omega) | exact lay_da (by omega) | exact lay_sh (by omega) | exact lay_se (by omega)) (show _ < 78 + 3 * _ by omega) ?_
            exact v_retI dX9_proxy_70 trivial (by simp only [mPro, if_pos h5, if_pos h23, if_pos h30, if_pos h38, if_pos h48]; exact ⟨rfl, rfl⟩)
          · refine v_ald0 dX9_proxy_51 ?_
            refine v_getP (q := 48) dX9_proxy_52 fl_X9_34 (by first | rfl | exact lay_door (by omega) | exact lay_dt (by omega) | exact lay_da (by omega) | exact lay_sh (by omega) | exact lay_se (by omega)) rfl (by omega) rfl ?_
            refine v_ild1 dX9_proxy_55 ?_
            refine v_iald dX9_proxy_56 (by first | rfl | exact lay_door (by omega) | exact lay_dt (by omega) | exact lay_da (by omega) | exact lay_sh (by omega) | exact lay_se (by omega)) (by omega) ⟨hd9.2, hd8, by decide⟩ ?_
            refine v_ald0 dX9_proxy_57 ?_
            refine v_getI dX9_proxy_58 fl_X9_66 (by first | rfl | exact lay_door (by omega) | exact lay_dt (by omega) | exact lay_da (by omega) | exact lay_sh (by omega) | exact lay_se (by omega)) rfl (by omega) ?_
            refine v_icmp_ge (tgt := 71) dX9_proxy_61 (by decide) (fun h61 => ?_) (fun h61 => ?_)
            · refine v_ald0 dX9_proxy_71 ?_
              refine v_ild1 dX9_proxy_72 ?_
              refine v_icN (n := 3) dX9_proxy_73 (by decide) ?_
              refine v_ild2 dX9_proxy_74 ?_
              refine v_V3n (c_X9_returns hd9.2 hd8) lk_X9_199 dX9_proxy_75 (by decide) (Nat.le_of_ble_eq_true rfl) (by first | rfl | exact lay_door (by omega) | exact lay_dt (by omega) | exact lay_da (by omega) | exact lay_sh (by omega) | exact lay_se (by omega)) (show _ < 78 + 3 * _ by omega) ?_
              refine v_ild2 dX9_proxy_78 ?_
              exact v_retI dX9_proxy_79 trivial (by simp only [mPro, if_pos h5, if_pos h23, if_pos h30, if_pos h38, if_neg h48, if_pos h61]; exact ⟨rfl, rfl⟩)
            · refine v_ald0 dX9_proxy_64 ?_
              refine v_bipush (v := -6) dX9_proxy_65 (by decide) ?_
              refine v_V1 (c_X9_no (k := 6) (by decide) (by decide) (by decide)) lk_X9_146 dX9_proxy_67 (by decide) (Nat.le_of_ble_eq_true rfl) (by first | rfl | exact lay_door (by omega) | exact lay_dt (by omega) | exact lay_da (by omega) | exact lay_sh (by omega) | exact lay_se (by omega)) (show _ < 78 + 3 * _ by omega) ?_
              exact v_retI dX9_proxy_70 trivial (by simp only [mPro, if_pos h5, if_pos h23, if_pos h30, if_pos h38, if_neg h48, if_neg h61]; exact ⟨rfl, rfl⟩)
  · refine v_ald0 dX9_proxy_8 ?_
    refine v_icm1 dX9_proxy_9 ?_
    refine v_V1 (c_X9_no (k := 1) (by decide) (by decide) (by decide)) lk_X9_146 dX9_proxy_10 (by decide) (Nat.le_of_ble_eq_true rfl) (by first | rfl | exact lay_door (by omega) | exact lay_dt (by omega) | exact lay_da (by omega) | exact lay_sh (by omega) | exact lay_se (by omega)) (show _ < 78 + 3 * _ by omega) ?_
    exact v_retI dX9_proxy_13 trivial (by simp only [mPro, if_neg h5]; exact ⟨rfl, rfl⟩)

def mTwi (dc : Nat) (I : Nat → Nat → Int32) (a i b k : Int32) : Nat := if inR a dc then (if inR b dc then (if ¬ i < 0 ∧ ¬ I 46 (tn a) ≤ i then (if ¬ k < 0 ∧ ¬ I 46 (tn b) ≤ k then (if a = b then 6 else (if I 53 (12 * tn a + tn i) = 0 then (if I 53 (12 * tn b + tn k) = 0 then (if I 45 (tn a) = nI 4 then 6 else (if I 45 (tn b) = nI 4 then 6 else 0)) else 6) else 6)) else 5) else 5) else 1) else 1
def mTwI (I : Nat → Nat → Int32) (a i b k : Int32) : Nat → Nat → Int32 := if a ≤ b then u2 I 53 (12 * tn b + tn k) (nI 1) else u2 I 53 (12 * tn a + tn i) (nI 1)

set_option maxRecDepth 4000 in
theorem c_X9_twice {G : GG} {dc : Nat} {I : Nat → Nat → Int32} {L : Nat → Nat → Int64} {a i b k : Int32} (hW : Wm dc I) : Cn G yX9_twice cX9_twice 6 (some .int) 1 0 0 [.ref 39, .int a, .int i, .int b, .int k] (Mm dc I L) (Is (some (.int (oR (mTwi dc I a i b k) (if a ≤ b then b else a)))) (pM (mTwi dc I a i b k) dc I L (Mm dc (mTwI I a i b k) (L)))) := by
  refine Cn.of' (by decide) (Nat.le_of_ble_eq_true rfl) rfl ?_
  refine v_ald0 dX9_twice_0 ?_
  refine v_ild1 dX9_twice_1 ?_
  refine v_V1 (c_mDoor hW) lk_X9_172 dX9_twice_2 (by decide) (Nat.le_of_ble_eq_true rfl) (by first | rfl | exact lay_door (by omega) | exact lay_dt (by omega) | exact lay_da (by omega) | exact lay_sh (by omega) | exact lay_se (by omega)) (show _ < 78 + 3 * _ by omega) ?_
  refine v_ifeq_b (tgt := 16) dX9_twice_5 (by decide) (fun h5 => ?_) (fun h5 => ?_)
  · refine v_ald0 dX9_twice_16 ?_
    refine v_icm1 dX9_twice_17 ?_
    refine v_V1 (c_X9_no (k := 1) (by decide) (by decide) (by decide)) lk_X9_146 dX9_twice_18 (by decide) (Nat.le_of_ble_eq_true rfl) (by first | rfl | exact lay_door (by omega) | exact lay_dt (by omega) | exact lay_da (by omega) | exact lay_sh (by omega) | exact lay_se (by omega)) (show _ < 78 + 3 * _ by omega) ?_
    exact v_retI dX9_twice_21 trivial (by simp only [mTwi, mTwI, if_neg h5]; exact ⟨rfl, rfl⟩)
  · refine v_ald0 dX9_twice_8 ?_
    refine v_ild3 dX9_twice_9 ?_
    refine v_V1 (c_mDoor hW) lk_X9_172 dX9_twice_10 (by decide) (Nat.le_of_ble_eq_true rfl) (by first | rfl | exact lay_door (by omega) | exact lay_dt (by omega) | exact lay_da (by omega) | exact lay_sh (by omega) | exact lay_se (by omega)) (show _ < 78 + 3 * _ by omega) ?_
    refine v_ifne_b (tgt := 22) dX9_twice_13 (by decide) (fun h13 => ?_) (fun h13 => ?_)
    · have ha9 := tn_lt rfl (by have := hW.1; omega) h5
      have hb9 := tn_lt rfl (by have := hW.1; omega) h13
      have hc9 := hW.1
      have hA := hW.2.2.2 _ ha9.1
      have hB := hW.2.2.2 _ hb9.1
      refine v_ald0 dX9_twice_22 ?_
      refine v_ild1 dX9_twice_23 ?_
      refine v_ild2 dX9_twice_24 ?_
      refine v_V2 (c_X9_isHead ha9.2 (by omega)) lk_X9_207 dX9_twice_25 (by decide) (Nat.le_of_ble_eq_true rfl) (by first | rfl | exact lay_door (by omega) | exact lay_dt (by omega) | exact lay_da (by omega) | exact lay_sh (by omega) | exact lay_se (by omega)) (show _ < 78 + 3 * _ by omega) ?_
      refine v_ifeq_b (tgt := 41) dX9_twice_28 (by decide) (fun h28 => ?_) (fun h28 => ?_)
      · refine v_ald0 dX9_twice_41 ?_
        refine v_bipush (v := -5) dX9_twice_42 (by decide) ?_
        refine v_V1 (c_X9_no (k := 5) (by decide) (by decide) (by decide)) lk_X9_146 dX9_twice_44 (by decide) (Nat.le_of_ble_eq_true rfl) (by first | rfl | exact lay_door (by omega) | exact lay_dt (by omega) | exact lay_da (by omega) | exact lay_sh (by omega) | exact lay_se (by omega)) (show _ < 78 + 3 * _ by omega) ?_
        exact v_retI dX9_twice_47 trivial (by simp only [mTwi, mTwI, if_pos h5, if_pos h13, if_neg h28]; exact ⟨rfl, rfl⟩)
      · refine v_ald0 dX9_twice_31 ?_
        refine v_ild3 dX9_twice_32 ?_
        refine v_ild4 dX9_twice_33 ?_
        refine v_V2 (c_X9_isHead hb9.2 (by omega)) lk_X9_207 dX9_twice_35 (by decide) (Nat.le_of_ble_eq_true rfl) (by first | rfl | exact lay_door (by omega) | exact lay_dt (by omega) | exact lay_da (by omega) | exact lay_sh (by omega) | exact lay_se (by omega)) (show _ < 78 + 3 * _ by omega) ?_
        refine v_ifne_b (tgt := 48) dX9_twice_38 (by decide) (fun h38 => ?_) (fun h38 => ?_)
        · have hi9 := ix_le hA.2.2.2.1 hA.2.2.2.2 (by decide) h28
          have hk9 := ix_le hB.2.2.2.1 hB.2.2.2.2 (by decide) h38
          have hi8 := hi9.2.1
          have hk8 := hk9.2.1
          have hal := ha9.1
          have hbl := hb9.1
          refine v_ild1 dX9_twice_48 ?_
          refine v_ild3 dX9_twice_49 ?_
          refine v_icmp_eq (tgt := 102) dX9_twice_50 (by decide) (fun h50 => ?_) (fun h50 => ?_)
          · refine v_ald0 dX9_twice_102 ?_
            refine v_bipush (v := -6) dX9_twice_103 (by decide) ?_
            refine v_V1 (c_X9_no (k := 6) (by decide) (by decide) (by decide)) lk_X9_146 dX9_twice_105 (by decide) (Nat.le_of_ble_eq_true rfl) (by first | rfl | exact lay_door (by omega) | exact lay_dt (by omega) | exact lay_da (by omega) | exact lay_sh (by omega) | exact lay_se (by omega)) (show _ < 78 + 3 * _ by omega) ?_
            exact v_retI dX9_twice_108 trivial (by simp only [mTwi, mTwI, if_pos h5, if_pos h13, if_pos h28, if_pos h38, if_pos h50]; exact ⟨rfl, rfl⟩)
          · refine v_ald0 dX9_twice_53 ?_
            refine v_getP (q := 53) dX9_twice_54 fl_X9_50 (by first | rfl | exact lay_door (by omega) | exact lay_dt (by omega) | exact lay_da (by omega) | exact lay_sh (by omega) | exact lay_se (by omega)) rfl (by omega) rfl ?_
            refine v_bipush (v := nI 12) dX9_twice_57 (by decide) ?_
            refine v_ild1 dX9_twice_59 ?_
            refine v_imul dX9_twice_60 ?_
            refine v_ild2 dX9_twice_61 ?_
            refine v_iadd dX9_twice_62 ?_
            refine v_zald dX9_twice_63 (by first | rfl | exact lay_door (by omega) | exact lay_dt (by omega) | exact lay_da (by omega) | exact lay_sh (by omega) | exact lay_se (by omega)) (by omega) (ix_mul ha9.2 hi9.1 (by omega) (by decide)) ?_
            refine v_if_ne (tgt := 102) dX9_twice_64 (by decide) (fun h64 => ?_) (fun h64 => ?_)
            · refine v_ald0 dX9_twice_102 ?_
              refine v_bipush (v := -6) dX9_twice_103 (by decide) ?_
              refine v_V1 (c_X9_no (k := 6) (by decide) (by decide) (by decide)) lk_X9_146 dX9_twice_105 (by decide) (Nat.le_of_ble_eq_true rfl) (by first | rfl | exact lay_door (by omega) | exact lay_dt (by omega) | exact lay_da (by omega) | exact lay_sh (by omega) | exact lay_se (by omega)) (show _ < 78 + 3 * _ by omega) ?_
              exact v_retI dX9_twice_108 trivial (by simp only [mTwi, mTwI, if_pos h5, if_pos h13, if_pos h28, if_pos h38, if_neg h50, if_neg h64]; exact ⟨rfl, rfl⟩)
            · refine v_ald0 dX9_twice_67 ?_
              refine v_getP (q := 53) dX9_twice_68 fl_X9_50 (by first | rfl | exact lay_door (by omega) | exact lay_dt (by omega) | exact lay_da (by omega) | exact lay_sh (by omega) | exact lay_se (by omega)) rfl (by omega) rfl ?_
              refine v_bipush (v := nI 12) dX9_twice_71 (by decide) ?_
              refine v_ild3 dX9_twice_73 ?_
              refine v_imul dX9_twice_74 ?_
              refine v_ild4 dX9_twice_75 ?_
              refine v_iadd dX9_twice_77 ?_
              refine v_zald dX9_twice_78 (by first | rfl | exact lay_door (by omega) | exact lay_dt (by omega) | exact lay_da (by omega) | exact lay_sh (by omega) | exact lay_se (by omega)) (by omega) (ix_mul hb9.2 hk9.1 (by omega) (by decide)) ?_
              refine v_if_ne (tgt := 102) dX9_twice_79 (by decide) (fun h79 => ?_) (fun h79 => ?_)
              · refine v_ald0 dX9_twice_102 ?_
                refine v_bipush (v := -6) dX9_twice_103 (by decide) ?_
                refine v_V1 (c_X9_no (k := 6) (by decide) (by decide) (by decide)) lk_X9_146 dX9_twice_105 (by decide) (Nat.le_of_ble_eq_true rfl) (by first | rfl | exact lay_door (by omega) | exact lay_dt (by omega) | exact lay_da (by omega) | exact lay_sh (by omega) | exact lay_se (by omega)) (show _ < 78 + 3 * _ by omega) ?_
                exact v_retI dX9_twice_108 trivial (by simp only [mTwi, mTwI, if_pos h5, if_pos h13, if_pos h28, if_pos h38, if_neg h50, if_pos h64, if_neg h79]; exact ⟨rfl, rfl⟩)
              · refine v_ald0 dX9_twice_82 ?_
                refine v_getP (q := 45) dX9_twice_83 fl_X9_25 (by first | rfl | exact lay_door (by omega) | exact lay_dt (by omega) | exact lay_da (by omega) | exact lay_sh (by omega) | exact lay_se (by omega)) rfl (by omega) rfl ?_
                refine v_ild1 dX9_twice_86 ?_
                refine v_iald dX9_twice_87 (by first | rfl | exact lay_door (by omega) | exact lay_dt (by omega) | exact lay_da (by omega) | exact lay_sh (by omega) | exact lay_se (by omega)) (by omega) ⟨ha9.2, by omega, by decide⟩ ?_
                refine v_icN (n := 4) dX9_twice_88 (by decide) ?_
                refine v_icmp_eq (tgt := 102) dX9_twice_89 (by decide) (fun h89 => ?_) (fun h89 => ?_)
                · refine v_ald0 dX9_twice_102 ?_
                  refine v_bipush (v := -6) dX9_twice_103 (by decide) ?_
                  refine v_V1 (c_X9_no (k := 6) (by decide) (by decide) (by decide)) lk_X9_146 dX9_twice_105 (by decide) (Nat.le_of_ble_eq_true rfl) (by first | rfl | exact lay_door (by omega) | exact lay_dt (by omega) | exact lay_da (by omega) | exact lay_sh (by omega) | exact lay_se (by omega)) (show _ < 78 + 3 * _ by omega) ?_
                  exact v_retI dX9_twice_108 trivial (by simp only [mTwi, mTwI, if_pos h5, if_pos h13, if_pos h28, if_pos h38, if_neg h50, if_pos h64, if_pos h79, if_pos h89]; exact ⟨rfl, rfl⟩)
                · refine v_ald0 dX9_twice_92 ?_
                  refine v_getP (q := 45) dX9_twice_93 fl_X9_25 (by first | rfl | exact lay_door (by omega) | exact lay_dt (by omega) | exact lay_da (by omega) | exact lay_sh (by omega) | exact lay_se (by omega)) rfl (by omega) rfl ?_
                  refine v_ild3 dX9_twice_96 ?_
                  refine v_iald dX9_twice_97 (by first | rfl | exact lay_door (by omega) | exact lay_dt (by omega) | exact lay_da (by omega) | exact lay_sh (by omega) | exact lay_se (by omega)) (by omega) ⟨hb9.2, by omega, by decide⟩ ?_
                  refine v_icN (n := 4) dX9_twice_98 (by decide) ?_
                  refine v_icmp_ne (tgt := 109) dX9_twice_99 (by decide) (fun h99 => ?_) (fun h99 => ?_)
                  · refine v_ild1 dX9_twice_109 ?_
                    refine v_ild3 dX9_twice_110 ?_
                    refine v_icmp_le (tgt := 118) dX9_twice_111 (by decide) (fun h111 => ?_) (fun h111 => ?_)
                    · refine v_ild3 dX9_twice_118 ?_
                      refine v_ist5 dX9_twice_119 rfl ?_
                      refine v_ald0 dX9_twice_121 ?_
                      refine v_getP (q := 53) dX9_twice_122 fl_X9_50 (by first | rfl | exact lay_door (by omega) | exact lay_dt (by omega) | exact lay_da (by omega) | exact lay_sh (by omega) | exact lay_se (by omega)) rfl (by omega) rfl ?_
                      refine v_bipush (v := nI 12) dX9_twice_125 (by decide) ?_
                      refine v_ild5 dX9_twice_127 ?_
                      refine v_imul dX9_twice_129 ?_
                      refine v_ild5 dX9_twice_130 ?_
                      refine v_ild1 dX9_twice_132 ?_
                      refine v_icmp_ne (tgt := 140) dX9_twice_133 (by decide) (fun h133 => ?_) (fun h133 => absurd h133.symm h50)
                      refine v_ild4 dX9_twice_140 ?_
                      refine v_iadd dX9_twice_142 ?_
                      refine v_icN (n := 1) dX9_twice_143 (by decide) ?_
                      refine v_zast dX9_twice_144 (by first | rfl | exact lay_door (by omega) | exact lay_dt (by omega) | exact lay_da (by omega) | exact lay_sh (by omega) | exact lay_se (by omega)) (by omega) (ix_mul hb9.2 hk9.1 (by omega) (by decide)) (by first | exact Or.inl rfl | exact Or.inr rfl | exact bI_01) ?_
                      refine v_ild5 dX9_twice_145 ?_
                      exact v_retI dX9_twice_147 trivial (by simp only [mTwi, mTwI, if_pos h5, if_pos h13, if_pos h28, if_pos h38, if_neg h50, if_pos h64, if_pos h79, if_neg h89, if_neg h99, if_pos h111]; exact ⟨rfl, rfl⟩)
                    · refine v_ild1 dX9_twice_114 ?_
                      refine v_goto (tgt := 119) dX9_twice_115 (by decide) ?_
                      refine v_ist5 dX9_twice_119 rfl ?_
                      refine v_ald0 dX9_twice_121 ?_
                      refine v_getP (q := 53) dX9_twice_122 fl_X9_50 (by first | rfl | exact lay_door (by omega) | exact lay_dt (by omega) | exact lay_da (by omega) | exact lay_sh (by omega) | exact lay_se (by omega)) rfl (by omega) rfl ?_
                      refine v_bipush (v := nI 12) dX9_twice_125 (by decide) ?_
                      refine v_ild5 dX9_twice_127 ?_
                      refine v_imul dX9_twice_129 ?_
                      refine v_ild5 dX9_twice_130 ?_
                      refine v_ild1 dX9_twice_132 ?_
                      refine v_icmp_ne (tgt := 140) dX9_twice_133 (by decide) (fun h133 => absurd rfl h133) (fun h133 => ?_)
                      refine v_ild2 dX9_twice_136 ?_
                      refine v_goto (tgt := 142) dX9_twice_137 (by decide) ?_
                      refine v_iadd dX9_twice_142 ?_
                      refine v_icN (n := 1) dX9_twice_143 (by decide) ?_
                      refine v_zast dX9_twice_144 (by first | rfl | exact lay_door (by omega) | exact lay_dt (by omega) | exact lay_da (by omega) | exact lay_sh (by omega) | exact lay_se (by omega)) (by omega) (ix_mul ha9.2 hi9.1 (by omega) (by decide)) (by first | exact Or.inl rfl | exact Or.inr rfl | exact bI_01) ?_
                      refine v_ild5 dX9_twice_145 ?_
                      exact v_retI dX9_twice_147 trivial (by simp only [mTwi, mTwI, if_pos h5, if_pos h13, if_pos h28, if_pos h38, if_neg h50, if_pos h64, if_pos h79, if_neg h89, if_neg h99, if_neg h111]; exact ⟨rfl, rfl⟩)
                  · refine v_ald0 dX9_twice_102 ?_
                    refine v_bipush (v := -6) dX9_twice_103 (by decide) ?_
                    refine v_V1 (c_X9_no (k := 6) (by decide) (by decide) (by decide)) lk_X9_146 dX9_twice_105 (by decide) (Nat.le_of_ble_eq_true rfl) (by first | rfl | exact lay_door (by omega) | exact lay_dt (by omega) | exact lay_da (by omega) | exact lay_sh (by omega) | exact lay_se (by omega)) (show _ < 78 + 3 * _ by omega) ?_
                    exact v_retI dX9_twice_108 trivial (by simp only [mTwi, mTwI, if_pos h5, if_pos h13, if_pos h28, if_pos h38, if_neg h50, if_pos h64, if_pos h79, if_neg h89, if_pos h99]; exact ⟨rfl, rfl⟩)
        · refine v_ald0 dX9_twice_41 ?_
          refine v_bipush (v := -5) dX9_twice_42 (by decide) ?_
          refine v_V1 (c_X9_no (k := 5) (by decide) (by decide) (by decide)) lk_X9_146 dX9_twice_44 (by decide) (Nat.le_of_ble_eq_true rfl) (by first | rfl | exact lay_door (by omega) | exact lay_dt (by omega) | exact lay_da (by omega) | exact lay_sh (by omega) | exact lay_se (by omega)) (show _ < 78 + 3 * _ by omega) ?_
          exact v_retI dX9_twice_47 trivial (by simp only [mTwi, mTwI, if_pos h5, if_pos h13, if_pos h28, if_neg h38]; exact ⟨rfl, rfl⟩)
    · refine v_ald0 dX9_twice_16 ?_
      refine v_icm1 dX9_twice_17 ?_
      refine v_V1 (c_X9_no (k := 1) (by decide) (by decide) (by decide)) lk_X9_146 dX9_twice_18 (by decide) (Nat.le_of_ble_eq_true rfl) (by first | rfl | exact lay_door (by omega) | exact lay_dt (by omega) | exact lay_da (by omega) | exact lay_sh (by omega) | exact lay_se (by omega)) (show _ < 78 + 3 * _ by omega) ?_
      exact v_retI dX9_twice_21 trivial (by simp only [mTwi, mTwI, if_pos h5, if_neg h13]; exact ⟨rfl, rfl⟩)

def mDoo (I : Nat → Nat → Int32) (n : Nat) (b l u : Int32) : Nat := if inR b 6 then (if inR l 4 then (if inR u 1024 then (if I 39 22 = 0 then (if n = 24 then 7 else 0) else 6) else 6) else 6) else 1
def mDoI (I : Nat → Nat → Int32) (n : Nat) (b l u : Int32) : Nat → Nat → Int32 := u2 (u2 (u2 (u2 (u2 I 40 n b) 41 n l) 42 n u) 50 n (-1)) 39 17 (nI (n + 1))
def mNea (a b : Int32) : Nat := if inR a 6 then (if inR b 6 then (if a = b then 6 else 0) else 1) else 1
def mNeI (I : Nat → Nat → Int32) (a b : Nat) : Nat → Nat → Int32 := u2 (u2 I 54 (6 * a + b) (nI 1)) 54 (6 * b + a) (nI 1)

set_option maxRecDepth 4000 in
theorem c_X9_door {G : GG} {dc : Nat} {I : Nat → Nat → Int32} {L : Nat → Nat → Int64} {b l u : Int32} {n : Nat} (hn : I 39 17 = nI n) (hn2 : n ≤ 24) : Cn G yX9_door cX9_door 4 (some .int) 1 0 0 [.ref 39, .int b, .int l, .int u] (Mm dc I L) (Is (some (.int (oR (mDoo I n b l u) (nI n)))) (pM (mDoo I n b l u) dc I L (Mm dc (mDoI I n b l u) (L)))) := by
  refine Cn.of' (by decide) (Nat.le_of_ble_eq_true rfl) rfl ?_
  refine v_ild1 dX9_door_0 ?_
  refine v_S1 c_X9_isBlock lk_X9_142 dX9_door_1 (by decide) (Nat.le_of_ble_eq_true rfl) ?_
  refine v_ifne_b (tgt := 13) dX9_door_4 (by decide) (fun h4 => ?_) (fun h4 => ?_)
  · refine v_ild2 dX9_door_13 ?_
    refine v_i2l dX9_door_14 ?_
    refine v_lcN0 dX9_door_15 ?_
    refine v_ldc2 dX9_door_16 kc_X9_150 ?_
    refine v_S3 (c_isInR 3 (by decide) (by decide) (by decide)) lk_X9_152 dX9_door_19 (by decide) (Nat.le_of_ble_eq_true rfl) ?_
    refine v_ifeq_b (tgt := 44) dX9_door_22 (by decide) (fun h22 => ?_) (fun h22 => ?_)
    · refine v_ald0 dX9_door_44 ?_
      refine v_bipush (v := -6) dX9_door_45 (by decide) ?_
      refine v_V1 (c_X9_no (k := 6) (by decide) (by decide) (by decide)) lk_X9_146 dX9_door_47 (by decide) (Nat.le_of_ble_eq_true rfl) (by first | rfl | exact lay_door (by omega) | exact lay_dt (by omega) | exact lay_da (by omega) | exact lay_sh (by omega) | exact lay_se (by omega)) (show _ < 78 + 3 * _ by omega) ?_
      exact v_retI dX9_door_50 trivial (by simp only [mDoo, if_pos h4, if_neg h22]; exact ⟨rfl, rfl⟩)
    · refine v_ild3 dX9_door_25 ?_
      refine v_i2l dX9_door_26 ?_
      refine v_lcN0 dX9_door_27 ?_
      refine v_ldc2 dX9_door_28 kc_X9_156 ?_
      refine v_S3 (c_isInR 1023 (by decide) (by decide) (by decide)) lk_X9_152 dX9_door_31 (by decide) (Nat.le_of_ble_eq_true rfl) ?_
      refine v_ifeq_b (tgt := 44) dX9_door_34 (by decide) (fun h34 => ?_) (fun h34 => ?_)
      · refine v_ald0 dX9_door_44 ?_
        refine v_bipush (v := -6) dX9_door_45 (by decide) ?_
        refine v_V1 (c_X9_no (k := 6) (by decide) (by decide) (by decide)) lk_X9_146 dX9_door_47 (by decide) (Nat.le_of_ble_eq_true rfl) (by first | rfl | exact lay_door (by omega) | exact lay_dt (by omega) | exact lay_da (by omega) | exact lay_sh (by omega) | exact lay_se (by omega)) (show _ < 78 + 3 * _ by omega) ?_
        exact v_retI dX9_door_50 trivial (by simp only [mDoo, if_pos h4, if_pos h22, if_neg h34]; exact ⟨rfl, rfl⟩)
      · refine v_ald0 dX9_door_37 ?_
        refine v_getI dX9_door_38 fl_X9_158 (by first | rfl | exact lay_door (by omega) | exact lay_dt (by omega) | exact lay_da (by omega) | exact lay_sh (by omega) | exact lay_se (by omega)) rfl (by omega) ?_
        refine v_if_eq (tgt := 51) dX9_door_41 (by decide) (fun h41 => ?_) (fun h41 => ?_)
        · refine v_ald0 dX9_door_51 ?_
          refine v_getI dX9_door_52 fl_X9_139 (by first | rfl | exact lay_door (by omega) | exact lay_dt (by omega) | exact lay_da (by omega) | exact lay_sh (by omega) | exact lay_se (by omega)) rfl (by omega) ?_
          refine v_bipush (v := nI 24) dX9_door_55 (by decide) ?_
          refine v_icmp_ne (tgt := 67) dX9_door_57 (by decide) (fun h57 => ?_) (fun h57 => ?_)
          · have h57 : ¬ I 39 17 = nI 24 := h57
            have hn8 : n ≠ 24 := fun q => h57 (by rw [hn, q])
            have hn9 : n < 24 := by omega
            refine v_ald0 dX9_door_67 ?_
            refine v_getP (q := 40) dX9_door_68 fl_X9_7 (by first | rfl | exact lay_door (by omega) | exact lay_dt (by omega) | exact lay_da (by omega) | exact lay_sh (by omega) | exact lay_se (by omega)) rfl (by omega) rfl ?_
            refine v_ald0 dX9_door_71 ?_
            refine v_getI dX9_door_72 fl_X9_139 (by first | rfl | exact lay_door (by omega) | exact lay_dt (by omega) | exact lay_da (by omega) | exact lay_sh (by omega) | exact lay_se (by omega)) rfl (by omega) ?_
            refine v_ild1 dX9_door_75 ?_
            refine v_iast dX9_door_76 (by first | rfl | exact lay_door (by omega) | exact lay_dt (by omega) | exact lay_da (by omega) | exact lay_sh (by omega) | exact lay_se (by omega)) (by omega) ⟨hn, hn9, by decide⟩ ?_
            refine v_ald0 dX9_door_77 ?_
            refine v_getP (q := 41) dX9_door_78 fl_X9_13 (by first | rfl | exact lay_door (by omega) | exact lay_dt (by omega) | exact lay_da (by omega) | exact lay_sh (by omega) | exact lay_se (by omega)) rfl (by omega) rfl ?_
            refine v_ald0 dX9_door_81 ?_
            refine v_getI dX9_door_82 fl_X9_139 (by first | rfl | exact lay_door (by omega) | exact lay_dt (by omega) | exact lay_da (by omega) | exact lay_sh (by omega) | exact lay_se (by omega)) rfl (by omega) ?_
            refine v_ild2 dX9_door_85 ?_
            refine v_iast dX9_door_86 (by first | rfl | exact lay_door (by omega) | exact lay_dt (by omega) | exact lay_da (by omega) | exact lay_sh (by omega) | exact lay_se (by omega)) (by omega) ⟨hn, hn9, by decide⟩ ?_
            refine v_ald0 dX9_door_87 ?_
            refine v_getP (q := 42) dX9_door_88 fl_X9_16 (by first | rfl | exact lay_door (by omega) | exact lay_dt (by omega) | exact lay_da (by omega) | exact lay_sh (by omega) | exact lay_se (by omega)) rfl (by omega) rfl ?_
            refine v_ald0 dX9_door_91 ?_
            refine v_getI dX9_door_92 fl_X9_139 (by first | rfl | exact lay_door (by omega) | exact lay_dt (by omega) | exact lay_da (by omega) | exact lay_sh (by omega) | exact lay_se (by omega)) rfl (by omega) ?_
            refine v_ild3 dX9_door_95 ?_
            refine v_iast dX9_door_96 (by first | rfl | exact lay_door (by omega) | exact lay_dt (by omega) | exact lay_da (by omega) | exact lay_sh (by omega) | exact lay_se (by omega)) (by omega) ⟨hn, hn9, by decide⟩ ?_
            refine v_ald0 dX9_door_97 ?_
            refine v_getP (q := 50) dX9_door_98 fl_X9_40 (by first | rfl | exact lay_door (by omega) | exact lay_dt (by omega) | exact lay_da (by omega) | exact lay_sh (by omega) | exact lay_se (by omega)) rfl (by omega) rfl ?_
            refine v_ald0 dX9_door_101 ?_
            refine v_getI dX9_door_102 fl_X9_139 (by first | rfl | exact lay_door (by omega) | exact lay_dt (by omega) | exact lay_da (by omega) | exact lay_sh (by omega) | exact lay_se (by omega)) rfl (by omega) ?_
            refine v_icm1 dX9_door_105 ?_
            refine v_iast dX9_door_106 (by first | rfl | exact lay_door (by omega) | exact lay_dt (by omega) | exact lay_da (by omega) | exact lay_sh (by omega) | exact lay_se (by omega)) (by omega) ⟨hn, hn9, by decide⟩ ?_
            refine v_ald0 dX9_door_107 ?_
            refine v_dupR dX9_door_108 ?_
            refine v_getI dX9_door_109 fl_X9_139 (by first | rfl | exact lay_door (by omega) | exact lay_dt (by omega) | exact lay_da (by omega) | exact lay_sh (by omega) | exact lay_se (by omega)) rfl (by omega) ?_
            refine v_icN (n := 1) dX9_door_112 (by decide) ?_
            refine v_iadd dX9_door_113 ?_
            refine v_e0 (congrArg Value.int (show I 39 17 + nI 1 = nI (n + 1) from by rw [hn, nI_add])) ?_
            refine v_putI dX9_door_114 fl_X9_139 ft_9_17 (by first | rfl | exact lay_door (by omega) | exact lay_dt (by omega) | exact lay_da (by omega) | exact lay_sh (by omega) | exact lay_se (by omega)) rfl (by omega) ?_
            refine v_ald0 dX9_door_117 ?_
            refine v_getI dX9_door_118 fl_X9_139 (by first | rfl | exact lay_door (by omega) | exact lay_dt (by omega) | exact lay_da (by omega) | exact lay_sh (by omega) | exact lay_se (by omega)) rfl (by omega) ?_
            refine v_icN (n := 1) dX9_door_121 (by decide) ?_
            refine v_isub dX9_door_122 ?_
            refine v_e0 (congrArg Value.int (show _ = nI n from by rw [u2_s, nI_succ, nI_one]; exact Int32.add_sub_cancel _ _)) ?_
            exact v_retI dX9_door_123 trivial (by simp only [mDoo, if_pos h4, if_pos h22, if_pos h34, if_pos h41, if_neg hn8]; exact ⟨rfl, rfl⟩)
          · have h57 : I 39 17 = nI 24 := h57
            have hn8 : n = 24 := (nI_eq (by omega) (by decide)).mp (hn.symm.trans h57)
            refine v_ald0 dX9_door_60 ?_
            refine v_bipush (v := -7) dX9_door_61 (by decide) ?_
            refine v_V1 (c_X9_no (k := 7) (by decide) (by decide) (by decide)) lk_X9_146 dX9_door_63 (by decide) (Nat.le_of_ble_eq_true rfl) (by first | rfl | exact lay_door (by omega) | exact lay_dt (by omega) | exact lay_da (by omega) | exact lay_sh (by omega) | exact lay_se (by omega)) (show _ < 78 + 3 * _ by omega) ?_
            exact v_retI dX9_door_66 trivial (by simp only [mDoo, if_pos h4, if_pos h22, if_pos h34, if_pos h41, if_pos hn8]; exact ⟨rfl, rfl⟩)
        · refine v_ald0 dX9_door_44 ?_
          refine v_bipush (v := -6) dX9_door_45 (by decide) ?_
          refine v_V1 (c_X9_no (k := 6) (by decide) (by decide) (by decide)) lk_X9_146 dX9_door_47 (by decide) (Nat.le_of_ble_eq_true rfl) (by first | rfl | exact lay_door (by omega) | exact lay_dt (by omega) | exact lay_da (by omega) | exact lay_sh (by omega) | exact lay_se (by omega)) (show _ < 78 + 3 * _ by omega) ?_
          exact v_retI dX9_door_50 trivial (by simp only [mDoo, if_pos h4, if_pos h22, if_pos h34, if_neg h41]; exact ⟨rfl, rfl⟩)
  · refine v_ald0 dX9_door_7 ?_
    refine v_icm1 dX9_door_8 ?_
    refine v_V1 (c_X9_no (k := 1) (by decide) (by decide) (by decide)) lk_X9_146 dX9_door_9 (by decide) (Nat.le_of_ble_eq_true rfl) (by first | rfl | exact lay_door (by omega) | exact lay_dt (by omega) | exact lay_da (by omega) | exact lay_sh (by omega) | exact lay_se (by omega)) (show _ < 78 + 3 * _ by omega) ?_
    exact v_retI dX9_door_12 trivial (by simp only [mDoo, if_neg h4]; exact ⟨rfl, rfl⟩)

set_option maxRecDepth 4000 in
theorem c_X9_near {G : GG} {dc : Nat} {I : Nat → Nat → Int32} {L : Nat → Nat → Int64} {a b : Int32} : Cn G yX9_near cX9_near 4 (some .int) 1 0 0 [.ref 39, .int a, .int b] (Mm dc I L) (Is (some (.int (oR (mNea a b) (bI (I 54 (6 * tn a + tn b) = 0))))) (pM (mNea a b) dc I L (Mm dc (mNeI I (tn a) (tn b)) (L)))) := by
  refine Cn.of' (by decide) (Nat.le_of_ble_eq_true rfl) rfl ?_
  refine v_ild1 dX9_near_0 ?_
  refine v_S1 c_X9_isBlock lk_X9_142 dX9_near_1 (by decide) (Nat.le_of_ble_eq_true rfl) ?_
  refine v_ifeq_b (tgt := 14) dX9_near_4 (by decide) (fun h4 => ?_) (fun h4 => ?_)
  · refine v_ald0 dX9_near_14 ?_
    refine v_icm1 dX9_near_15 ?_
    refine v_V1 (c_X9_no (k := 1) (by decide) (by decide) (by decide)) lk_X9_146 dX9_near_16 (by decide) (Nat.le_of_ble_eq_true rfl) (by first | rfl | exact lay_door (by omega) | exact lay_dt (by omega) | exact lay_da (by omega) | exact lay_sh (by omega) | exact lay_se (by omega)) (show _ < 78 + 3 * _ by omega) ?_
    exact v_retI dX9_near_19 trivial (by simp only [mNea, if_neg h4]; exact ⟨rfl, rfl⟩)
  · refine v_ild2 dX9_near_7 ?_
    refine v_S1 c_X9_isBlock lk_X9_142 dX9_near_8 (by decide) (Nat.le_of_ble_eq_true rfl) ?_
    refine v_ifne_b (tgt := 20) dX9_near_11 (by decide) (fun h11 => ?_) (fun h11 => ?_)
    · refine v_ild1 dX9_near_20 ?_
      refine v_ild2 dX9_near_21 ?_
      refine v_icmp_ne (tgt := 32) dX9_near_22 (by decide) (fun h22 => ?_) (fun h22 => ?_)
      · have ha9 := ix_R (by decide) h4
        have hb9 := ix_R (by decide) h11
        have ha8 := ha9.2.1
        have hb8 := hb9.2.1
        refine v_ald0 dX9_near_32 ?_
        refine v_getP (q := 54) dX9_near_33 fl_X9_53 (by first | rfl | exact lay_door (by omega) | exact lay_dt (by omega) | exact lay_da (by omega) | exact lay_sh (by omega) | exact lay_se (by omega)) rfl (by omega) rfl ?_
        refine v_bipush (v := nI 6) dX9_near_36 (by decide) ?_
        refine v_ild1 dX9_near_38 ?_
        refine v_imul dX9_near_39 ?_
        refine v_ild2 dX9_near_40 ?_
        refine v_iadd dX9_near_41 ?_
        refine v_zald dX9_near_42 (by first | rfl | exact lay_door (by omega) | exact lay_dt (by omega) | exact lay_da (by omega) | exact lay_sh (by omega) | exact lay_se (by omega)) (by omega) (ix_mul ha9.1 hb9.1 (by omega) (by decide)) ?_
        refine v_if_eq (tgt := 50) dX9_near_43 (by decide) (fun h43 => ?_) (fun h43 => ?_)
        · refine v_icN (n := 1) dX9_near_50 (by decide) ?_
          refine v_ist3 dX9_near_51 rfl ?_
          refine v_ald0 dX9_near_52 ?_
          refine v_getP (q := 54) dX9_near_53 fl_X9_53 (by first | rfl | exact lay_door (by omega) | exact lay_dt (by omega) | exact lay_da (by omega) | exact lay_sh (by omega) | exact lay_se (by omega)) rfl (by omega) rfl ?_
          refine v_bipush (v := nI 6) dX9_near_56 (by decide) ?_
          refine v_ild1 dX9_near_58 ?_
          refine v_imul dX9_near_59 ?_
          refine v_ild2 dX9_near_60 ?_
          refine v_iadd dX9_near_61 ?_
          refine v_icN (n := 1) dX9_near_62 (by decide) ?_
          refine v_zast dX9_near_63 (by first | rfl | exact lay_door (by omega) | exact lay_dt (by omega) | exact lay_da (by omega) | exact lay_sh (by omega) | exact lay_se (by omega)) (by omega) (ix_mul ha9.1 hb9.1 (by omega) (by decide)) (by first | exact Or.inl rfl | exact Or.inr rfl | exact bI_01) ?_
          refine v_ald0 dX9_near_64 ?_
          refine v_getP (q := 54) dX9_near_65 fl_X9_53 (by first | rfl | exact lay_door (by omega) | exact lay_dt (by omega) | exact lay_da (by omega) | exact lay_sh (by omega) | exact lay_se (by omega)) rfl (by omega) rfl ?_
          refine v_bipush (v := nI 6) dX9_near_68 (by decide) ?_
          refine v_ild2 dX9_near_70 ?_
          refine v_imul dX9_near_71 ?_
          refine v_ild1 dX9_near_72 ?_
          refine v_iadd dX9_near_73 ?_
          refine v_icN (n := 1) dX9_near_74 (by decide) ?_
          refine v_zast dX9_near_75 (by first | rfl | exact lay_door (by omega) | exact lay_dt (by omega) | exact lay_da (by omega) | exact lay_sh (by omega) | exact lay_se (by omega)) (by omega) (ix_mul hb9.1 ha9.1 (by omega) (by decide)) (by first | exact Or.inl rfl | exact Or.inr rfl | exact bI_01) ?_
          refine v_ild3 dX9_near_76 ?_
          exact v_retI dX9_near_77 trivial (by simp only [mNea, if_pos h4, if_pos h11, if_neg h22]; rw [bI_t h43]; exact ⟨rfl, rfl⟩)
        · refine v_icN (n := 0) dX9_near_46 (by decide) ?_
          refine v_goto (tgt := 51) dX9_near_47 (by decide) ?_
          refine v_ist3 dX9_near_51 rfl ?_
          refine v_ald0 dX9_near_52 ?_
          refine v_getP (q := 54) dX9_near_53 fl_X9_53 (by first | rfl | exact lay_door (by omega) | exact lay_dt (by omega) | exact lay_da (by omega) | exact lay_sh (by omega) | exact lay_se (by omega)) rfl (by omega) rfl ?_
          refine v_bipush (v := nI 6) dX9_near_56 (by decide) ?_
          refine v_ild1 dX9_near_58 ?_
          refine v_imul dX9_near_59 ?_
          refine v_ild2 dX9_near_60 ?_
          refine v_iadd dX9_near_61 ?_
          refine v_icN (n := 1) dX9_near_62 (by decide) ?_
          refine v_zast dX9_near_63 (by first | rfl | exact lay_door (by omega) | exact lay_dt (by omega) | exact lay_da (by omega) | exact lay_sh (by omega) | exact lay_se (by omega)) (by omega) (ix_mul ha9.1 hb9.1 (by omega) (by decide)) (by first | exact Or.inl rfl | exact Or.inr rfl | exact bI_01) ?_
          refine v_ald0 dX9_near_64 ?_
          refine v_getP (q := 54) dX9_near_65 fl_X9_53 (by first | rfl | exact lay_door (by omega) | exact lay_dt (by omega) | exact lay_da (by omega) | exact lay_sh (by omega) | exact lay_se (by omega)) rfl (by omega) rfl ?_
          refine v_bipush (v := nI 6) dX9_near_68 (by decide) ?_
          refine v_ild2 dX9_near_70 ?_
          refine v_imul dX9_near_71 ?_
          refine v_ild1 dX9_near_72 ?_
          refine v_iadd dX9_near_73 ?_
          refine v_icN (n := 1) dX9_near_74 (by decide) ?_
          refine v_zast dX9_near_75 (by first | rfl | exact lay_door (by omega) | exact lay_dt (by omega) | exact lay_da (by omega) | exact lay_sh (by omega) | exact lay_se (by omega)) (by omega) (ix_mul hb9.1 ha9.1 (by omega) (by decide)) (by first | exact Or.inl rfl | exact Or.inr rfl | exact bI_01) ?_
          refine v_ild3 dX9_near_76 ?_
          exact v_retI dX9_near_77 trivial (by simp only [mNea, if_pos h4, if_pos h11, if_neg h22]; rw [bI_f h43]; exact ⟨rfl, rfl⟩)
      · refine v_ald0 dX9_near_25 ?_
        refine v_bipush (v := -6) dX9_near_26 (by decide) ?_
        refine v_V1 (c_X9_no (k := 6) (by decide) (by decide) (by decide)) lk_X9_146 dX9_near_28 (by decide) (Nat.le_of_ble_eq_true rfl) (by first | rfl | exact lay_door (by omega) | exact lay_dt (by omega) | exact lay_da (by omega) | exact lay_sh (by omega) | exact lay_se (by omega)) (show _ < 78 + 3 * _ by omega) ?_
        exact v_retI dX9_near_31 trivial (by simp only [mNea, if_pos h4, if_pos h11, if_pos h22]; exact ⟨rfl, rfl⟩)
    · refine v_ald0 dX9_near_14 ?_
      refine v_icm1 dX9_near_15 ?_
      refine v_V1 (c_X9_no (k := 1) (by decide) (by decide) (by decide)) lk_X9_146 dX9_near_16 (by decide) (Nat.le_of_ble_eq_true rfl) (by first | rfl | exact lay_door (by omega) | exact lay_dt (by omega) | exact lay_da (by omega) | exact lay_sh (by omega) | exact lay_se (by omega)) (show _ < 78 + 3 * _ by omega) ?_
      exact v_retI dX9_near_19 trivial (by simp only [mNea, if_pos h4, if_neg h11]; exact ⟨rfl, rfl⟩)
