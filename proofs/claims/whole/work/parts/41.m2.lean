section OB2
variable {G : GG} {y : MethodName} {cc : ByteArray} {nL : Nat} {ret : Option FieldType} {dep bc bs pc : Nat} {ls st : List Value} {μ : Mem} {Post : Option Value → Mem → Prop}
theorem v_ifne_o {k : Nat} {off : Int} {tgt : Nat} (hk : k < 8) (hdg : decode cc pc = .ok (.ifCond .ne off, 3)) (ht : (pc : Int) + off = (tgt : Int)) (k1 : ¬ k = 0 → V G y cc nL ret dep bc bs tgt ls st μ Post) (k2 : k = 0 → V G y cc nL ret dep bc bs (pc + 3) ls st μ Post) : V G y cc nL ret dep bc bs pc ls (.int (oR k (nI 0)) :: st) μ Post := by
  refine v_if_ne hdg ht (fun h => k1 fun q => h ?_) (fun h => k2 (Classical.byContradiction fun q => ?_))
  · rw [q]; rfl
  · rw [oRk q] at h
    exact (ngs k hk (by omega)).2.2.2 h
end OB2
/-- a stretch of a row rewritten -/
def gr2 {α : Type} (f : Nat → Nat → α) (a b m : Nat) (g : Nat → α) : Nat → Nat → α := fun x j => if x = a ∧ b ≤ j ∧ j < b + m then g (j - b) else f x j
theorem gr2_0 {α : Type} (f : Nat → Nat → α) (a b : Nat) (g : Nat → α) : gr2 f a b 0 g = f := by
  funext x j
  exact if_neg (fun q => by omega)
theorem gr2_s {α : Type} (f : Nat → Nat → α) (a b m : Nat) (g : Nat → α) {v : α} (hv : v = g m) : u2 (gr2 f a b m g) a (b + m) v = gr2 f a b (m + 1) g := by
  funext x j
  unfold u2 gr2
  by_cases h : x = a ∧ j = b + m
  · rw [if_pos h, if_pos ⟨h.1, by omega, by omega⟩, hv, h.2]
    congr 1
    omega
  · rw [if_neg h]
    by_cases h2 : x = a ∧ b ≤ j ∧ j < b + m
    · rw [if_pos h2, if_pos ⟨h2.1, by omega, by omega⟩]
    · rw [if_neg h2, if_neg (fun q => by
        by_cases e : j = b + m
        · exact h ⟨q.1, e⟩
        · exact h2 ⟨q.1, q.2.1, by omega⟩)]
theorem gr2_o {α : Type} (f : Nat → Nat → α) {a b m x : Nat} (j : Nat) (g : Nat → α) (h : x ≠ a) : gr2 f a b m g x j = f x j := if_neg (fun q => h q.1)
theorem gr2_i {α : Type} (f : Nat → Nat → α) {a b m k : Nat} (g : Nat → α) (h : k < m) : gr2 f a b m g a (b + k) = g k := by
  unfold gr2
  rw [if_pos ⟨rfl, by omega, by omega⟩]
  congr 1
  omega
theorem gr2_b {α : Type} (f : Nat → Nat → α) {a b m j : Nat} (g : Nat → α) (h : ¬ (b ≤ j ∧ j < b + m)) : gr2 f a b m g a j = f a j := if_neg (fun q => h q.2)
def mRow (s t z : Int32) : Nat := if inR s 8 then (if 0 ≤ z then (if inR t 4 then (if z ≤ nI 30 then 0 else 7) else 6) else 4) else 1
theorem nI_lt0 {a : Int32} (h : ¬ a < 0) : 0 ≤ a := by
  rw [Int32.le_iff_toInt_le, Int32.toInt_zero]
  rw [Int32.lt_iff_toInt_lt, Int32.toInt_zero] at h
  omega

set_option maxRecDepth 4000 in
theorem lp_mrow {G : GG} {dc : Nat} {J : Nat → Nat → Int32} {L : Nat → Nat → Int64} {s t z : Int32} (hs : inR s 8) (k : Nat) : ∀ i, i + k = 30 → V G yX9_row cX9_row 5 (some .int) 0 0 0 80 [.ref 39, .int s, .int t, .int z, .int (nI i)] [] (Mm dc J (gr2 L 63 (30 * tn s) (i) (fun _ => lN 0))) (Is (some (.int (nI 1))) (Mm dc J (gr2 L 63 (30 * tn s) (30) (fun _ => lN 0)))) := by
  induction k with
  | zero =>
    intro i hi
    refine v_ild4 dX9_row_80 ?_
    refine v_bipush (v := nI 30) dX9_row_82 (by decide) ?_
    refine v_icmp_ge (tgt := 106) dX9_row_84 (by decide) (fun h84 => ?_) (fun h84 => absurd (nI_le (by omega) (by omega)) h84)
    refine v_icN (n := 1) dX9_row_106 (by decide) ?_
    exact v_retI dX9_row_107 trivial (by rw [show i = 30 by omega]; exact ⟨rfl, rfl⟩)
  | succ k ih =>
    intro i hi
    refine v_ild4 dX9_row_80 ?_
    refine v_bipush (v := nI 30) dX9_row_82 (by decide) ?_
    refine v_icmp_ge (tgt := 106) dX9_row_84 (by decide) (fun h84 => absurd h84 (nI_ge (by omega) (by omega))) (fun h84 => ?_)
    refine v_ald0 dX9_row_87 ?_
    refine v_getP (q := 63) dX9_row_88 fl_X9_93 (by first | rfl | exact lay_door (by omega) | exact lay_dt (by omega) | exact lay_da (by omega) | exact lay_sh (by omega) | exact lay_se (by omega)) rfl (by omega) rfl ?_
    refine v_bipush (v := nI 30) dX9_row_91 (by decide) ?_
    refine v_ild1 dX9_row_93 ?_
    refine v_imul dX9_row_94 ?_
    refine v_ild4 dX9_row_95 ?_
    refine v_iadd dX9_row_97 ?_
    refine v_lcN0 dX9_row_98 ?_
    refine v_last dX9_row_99 (by first | rfl | exact lay_door (by omega) | exact lay_dt (by omega) | exact lay_da (by omega) | exact lay_sh (by omega) | exact lay_se (by omega)) (by omega) (ix_mul (ix_R (by decide) hs).1 rfl (by have := (ix_R (by decide) hs).2.1; omega) (by decide)) ?_
    refine v_inc4 dX9_row_100 rfl ?_
    refine v_goto (tgt := 80) dX9_row_103 (by decide) ?_
    rw [gr2_s _ _ _ _ _ rfl, nI_1 i]
    exact ih (i + 1) (by omega)

set_option maxRecDepth 4000 in
theorem c_X9_row {G : GG} {dc : Nat} {I : Nat → Nat → Int32} {L : Nat → Nat → Int64} {s t z : Int32} : Cn G yX9_row cX9_row 5 (some .int) 1 0 0 [.ref 39, .int s, .int t, .int z] (Mm dc I L) (Is (some (.int (oR (mRow s t z) (nI 1)))) (pM (mRow s t z) dc I L (Mm dc ((u2 (u2 (u2 I 60 (tn s) (nI 1)) 61 (tn s) t) 62 (tn s) z)) ((gr2 L 63 (30 * tn s) (30) (fun _ => lN 0)))))) := by
  refine Cn.of' (by decide) (Nat.le_of_ble_eq_true rfl) rfl ?_
  refine v_ild1 dX9_row_0 ?_
  refine v_S1 c_X9_isShelf lk_X9_162 dX9_row_1 (by decide) (Nat.le_of_ble_eq_true rfl) ?_
  refine v_ifne_b (tgt := 13) dX9_row_4 (by decide) (fun h4 => ?_) (fun h4 => ?_)
  · refine v_ild3 dX9_row_13 ?_
    refine v_if_ge (tgt := 24) dX9_row_14 (by decide) (fun h14 => ?_) (fun h14 => ?_)
    · refine v_ild2 dX9_row_24 ?_
      refine v_i2l dX9_row_25 ?_
      refine v_lcN0 dX9_row_26 ?_
      refine v_ldc2 dX9_row_27 kc_X9_150 ?_
      refine v_S3 (c_isInR 3 (by decide) (by decide) (by decide)) lk_X9_152 dX9_row_30 (by decide) (Nat.le_of_ble_eq_true rfl) ?_
      refine v_ifne_b (tgt := 43) dX9_row_33 (by decide) (fun h33 => ?_) (fun h33 => ?_)
      · refine v_ild3 dX9_row_43 ?_
        refine v_bipush (v := nI 30) dX9_row_44 (by decide) ?_
        refine v_icmp_le (tgt := 56) dX9_row_46 (by decide) (fun h46 => ?_) (fun h46 => ?_)
        · refine v_ald0 dX9_row_56 ?_
          refine v_getP (q := 60) dX9_row_57 fl_X9_84 (by first | rfl | exact lay_door (by omega) | exact lay_dt (by omega) | exact lay_da (by omega) | exact lay_sh (by omega) | exact lay_se (by omega)) rfl (by omega) rfl ?_
          refine v_ild1 dX9_row_60 ?_
          refine v_icN (n := 1) dX9_row_61 (by decide) ?_
          refine v_iast dX9_row_62 (by first | rfl | exact lay_door (by omega) | exact lay_dt (by omega) | exact lay_da (by omega) | exact lay_sh (by omega) | exact lay_se (by omega)) (by omega) (ix_R (by decide) h4) ?_
          refine v_ald0 dX9_row_63 ?_
          refine v_getP (q := 61) dX9_row_64 fl_X9_87 (by first | rfl | exact lay_door (by omega) | exact lay_dt (by omega) | exact lay_da (by omega) | exact lay_sh (by omega) | exact lay_se (by omega)) rfl (by omega) rfl ?_
          refine v_ild1 dX9_row_67 ?_
          refine v_ild2 dX9_row_68 ?_
          refine v_iast dX9_row_69 (by first | rfl | exact lay_door (by omega) | exact lay_dt (by omega) | exact lay_da (by omega) | exact lay_sh (by omega) | exact lay_se (by omega)) (by omega) (ix_R (by decide) h4) ?_
          refine v_ald0 dX9_row_70 ?_
          refine v_getP (q := 62) dX9_row_71 fl_X9_90 (by first | rfl | exact lay_door (by omega) | exact lay_dt (by omega) | exact lay_da (by omega) | exact lay_sh (by omega) | exact lay_se (by omega)) rfl (by omega) rfl ?_
          refine v_ild1 dX9_row_74 ?_
          refine v_ild3 dX9_row_75 ?_
          refine v_iast dX9_row_76 (by first | rfl | exact lay_door (by omega) | exact lay_dt (by omega) | exact lay_da (by omega) | exact lay_sh (by omega) | exact lay_se (by omega)) (by omega) (ix_R (by decide) h4) ?_
          refine v_icN (n := 0) dX9_row_77 (by decide) ?_
          refine v_ist4 dX9_row_78 rfl ?_
          simp only [mRow, if_pos h4, if_pos h14, if_pos h33, if_pos h46]
          have h9 := lp_mrow (G := G) (dc := dc) (J := (u2 (u2 (u2 I 60 (tn s) (nI 1)) 61 (tn s) t) 62 (tn s) z)) (L := L) (s := s) (t := t) (z := z) h4 30 0 (by omega)
          rw [gr2_0] at h9
          exact V.mono (Nat.zero_le _) (Nat.le_refl _) (Nat.le_refl _) (fun _ _ h => h) h9
        · refine v_ald0 dX9_row_49 ?_
          refine v_bipush (v := -7) dX9_row_50 (by decide) ?_
          refine v_V1 (c_X9_no (k := 7) (by decide) (by decide) (by decide)) lk_X9_146 dX9_row_52 (by decide) (Nat.le_of_ble_eq_true rfl) (by first | rfl | exact lay_door (by omega) | exact lay_dt (by omega) | exact lay_da (by omega) | exact lay_sh (by omega) | exact lay_se (by omega)) (show _ < 78 + 3 * _ by omega) ?_
          exact v_retI dX9_row_55 trivial (by simp only [mRow, if_pos h4, if_pos h14, if_pos h33, if_neg h46]; exact ⟨rfl, rfl⟩)
      · refine v_ald0 dX9_row_36 ?_
        refine v_bipush (v := -6) dX9_row_37 (by decide) ?_
        refine v_V1 (c_X9_no (k := 6) (by decide) (by decide) (by decide)) lk_X9_146 dX9_row_39 (by decide) (Nat.le_of_ble_eq_true rfl) (by first | rfl | exact lay_door (by omega) | exact lay_dt (by omega) | exact lay_da (by omega) | exact lay_sh (by omega) | exact lay_se (by omega)) (show _ < 78 + 3 * _ by omega) ?_
        exact v_retI dX9_row_42 trivial (by simp only [mRow, if_pos h4, if_pos h14, if_neg h33]; exact ⟨rfl, rfl⟩)
    · refine v_ald0 dX9_row_17 ?_
      refine v_bipush (v := -4) dX9_row_18 (by decide) ?_
      refine v_V1 (c_X9_no (k := 4) (by decide) (by decide) (by decide)) lk_X9_146 dX9_row_20 (by decide) (Nat.le_of_ble_eq_true rfl) (by first | rfl | exact lay_door (by omega) | exact lay_dt (by omega) | exact lay_da (by omega) | exact lay_sh (by omega) | exact lay_se (by omega)) (show _ < 78 + 3 * _ by omega) ?_
      exact v_retI dX9_row_23 trivial (by simp only [mRow, if_pos h4, if_neg h14]; exact ⟨rfl, rfl⟩)
  · refine v_ald0 dX9_row_7 ?_
    refine v_icm1 dX9_row_8 ?_
    refine v_V1 (c_X9_no (k := 1) (by decide) (by decide) (by decide)) lk_X9_146 dX9_row_9 (by decide) (Nat.le_of_ble_eq_true rfl) (by first | rfl | exact lay_door (by omega) | exact lay_dt (by omega) | exact lay_da (by omega) | exact lay_sh (by omega) | exact lay_se (by omega)) (show _ < 78 + 3 * _ by omega) ?_
    exact v_retI dX9_row_12 trivial (by simp only [mRow, if_neg h4]; exact ⟨rfl, rfl⟩)

def mSet (I : Nat → Nat → Int32) (s i : Int32) : Nat := if mk0 I s = 0 then (if ¬ i < 0 ∧ ¬ I 62 (tn s) ≤ i then 0 else 5) else mk0 I s

set_option maxRecDepth 4000 in
theorem c_X9_set {G : GG} {dc : Nat} {I : Nat → Nat → Int32} {L : Nat → Nat → Int64} {s i : Int32} {v : Int64} (hW : Wm dc I) : Cn G yX9_set cX9_set 6 (some .int) 2 0 0 [.ref 39, .int s, .int i, .long v] (Mm dc I L) (Is (some (.int (oR (mSet I s i) (nI 1)))) (pM (mSet I s i) dc I L (Mm dc (I) (u2 L 63 (30 * tn s + tn i) (lowB (I 61 (tn s)) v))))) := by
  refine Cn.of' (by decide) (Nat.le_of_ble_eq_true rfl) rfl ?_
  refine v_ald0 dX9_set_0 ?_
  refine v_ild1 dX9_set_1 ?_
  refine v_V1 c_X9_notRow lk_X9_165 dX9_set_2 (by decide) (Nat.le_of_ble_eq_true rfl) (by first | rfl | exact lay_door (by omega) | exact lay_dt (by omega) | exact lay_da (by omega) | exact lay_sh (by omega) | exact lay_se (by omega)) (show _ < 78 + 3 * _ by omega) ?_
  refine v_ist5 dX9_set_5 rfl ?_
  refine v_ild5 dX9_set_7 ?_
  refine v_ifne_o (mk0_lt _ _) (tgt := 34) dX9_set_9 (by decide) (fun h9 => ?_) (fun h9 => ?_)
  · refine v_ild5 dX9_set_34 ?_
    refine v_ifeq_o (mk0_lt _ _) (tgt := 46) dX9_set_36 (by decide) (fun h36 => absurd h36 h9) (fun h36 => ?_)
    refine v_ald0 dX9_set_39 ?_
    refine v_ild5 dX9_set_40 ?_
    refine v_V1 (c_X9_no (oRk h9 _) (mk0_lt _ _) (Nat.one_le_iff_ne_zero.mpr h9)) lk_X9_146 dX9_set_42 (by decide) (Nat.le_of_ble_eq_true rfl) (by first | rfl | exact lay_door (by omega) | exact lay_dt (by omega) | exact lay_da (by omega) | exact lay_sh (by omega) | exact lay_se (by omega)) (show _ < 78 + 3 * _ by omega) ?_
    exact v_retI dX9_set_45 trivial (by simp only [mSet, if_neg h9]; rw [oRk h9, pMk h9]; exact ⟨rfl, rfl⟩)
  · have hs9 : tn s < 8 := (ix_R (by decide) (mk0_in h9)).2.1
    refine v_ild2 dX9_set_12 ?_
    refine v_i2l dX9_set_13 ?_
    refine v_lcN0 dX9_set_14 ?_
    refine v_ald0 dX9_set_15 ?_
    refine v_getP (q := 62) dX9_set_16 fl_X9_90 (by first | rfl | exact lay_door (by omega) | exact lay_dt (by omega) | exact lay_da (by omega) | exact lay_sh (by omega) | exact lay_se (by omega)) rfl (by omega) rfl ?_
    refine v_ild1 dX9_set_19 ?_
    refine v_iald dX9_set_20 (by first | rfl | exact lay_door (by omega) | exact lay_dt (by omega) | exact lay_da (by omega) | exact lay_sh (by omega) | exact lay_se (by omega)) (by omega) (ix_R (by decide) (mk0_in h9)) ?_
    refine v_icN (n := 1) dX9_set_21 (by decide) ?_
    refine v_isub dX9_set_22 ?_
    refine v_i2l dX9_set_23 ?_
    refine v_S3 (c_isInS (by have := (hW.sz hs9).2; omega) (hW.sz hs9).1 (by decide)) lk_X9_152 dX9_set_24 (by decide) (Nat.le_of_ble_eq_true rfl) ?_
    refine v_ifne_b (tgt := 34) dX9_set_27 (by decide) (fun h27 => ?_) (fun h27 => ?_)
    · refine v_ild5 dX9_set_34 ?_
      refine v_ifeq_o (mk0_lt _ _) (tgt := 46) dX9_set_36 (by decide) (fun h36 => ?_) (fun h36 => absurd h9 h36)
      refine v_ald0 dX9_set_46 ?_
      refine v_getP (q := 63) dX9_set_47 fl_X9_93 (by first | rfl | exact lay_door (by omega) | exact lay_dt (by omega) | exact lay_da (by omega) | exact lay_sh (by omega) | exact lay_se (by omega)) rfl (by omega) rfl ?_
      refine v_bipush (v := nI 30) dX9_set_50 (by decide) ?_
      refine v_ild1 dX9_set_52 ?_
      refine v_imul dX9_set_53 ?_
      refine v_ild2 dX9_set_54 ?_
      refine v_iadd dX9_set_55 ?_
      refine v_ald0 dX9_set_56 ?_
      refine v_getP (q := 61) dX9_set_57 fl_X9_87 (by first | rfl | exact lay_door (by omega) | exact lay_dt (by omega) | exact lay_da (by omega) | exact lay_sh (by omega) | exact lay_se (by omega)) rfl (by omega) rfl ?_
      refine v_ild1 dX9_set_60 ?_
      refine v_iald dX9_set_61 (by first | rfl | exact lay_door (by omega) | exact lay_dt (by omega) | exact lay_da (by omega) | exact lay_sh (by omega) | exact lay_se (by omega)) (by omega) (ix_R (by decide) (mk0_in h9)) ?_
      refine v_lld3 dX9_set_62 ?_
      refine v_S2 c_X9_fit lk_X9_168 dX9_set_63 (by decide) (Nat.le_of_ble_eq_true rfl) ?_
      refine v_last dX9_set_66 (by first | rfl | exact lay_door (by omega) | exact lay_dt (by omega) | exact lay_da (by omega) | exact lay_sh (by omega) | exact lay_se (by omega)) (by omega) (ix_mul (ix_R (by decide) (mk0_in h9)).1 (tn_lt (hW.sz hs9).1 (by have := (hW.sz hs9).2; omega) h27).2 (by have := (tn_lt (hW.sz hs9).1 (by have := (hW.sz hs9).2; omega) h27).1; have := (hW.sz hs9).2; omega) (by decide)) ?_
      refine v_icN (n := 1) dX9_set_67 (by decide) ?_
      exact v_retI dX9_set_68 trivial (by simp only [mSet, if_pos h9, if_pos h27]; exact ⟨rfl, rfl⟩)
    · refine v_bipush (v := -5) dX9_set_30 (by decide) ?_
      refine v_ist5 dX9_set_32 rfl ?_
      refine v_ild5 dX9_set_34 ?_
      refine v_if_eq (tgt := 46) dX9_set_36 (by decide) (fun h36 => absurd h36 (by decide)) (fun h36 => ?_)
      refine v_ald0 dX9_set_39 ?_
      refine v_ild5 dX9_set_40 ?_
      refine v_V1 (c_X9_no (k := 5) (by decide) (by decide) (by decide)) lk_X9_146 dX9_set_42 (by decide) (Nat.le_of_ble_eq_true rfl) (by first | rfl | exact lay_door (by omega) | exact lay_dt (by omega) | exact lay_da (by omega) | exact lay_sh (by omega) | exact lay_se (by omega)) (show _ < 78 + 3 * _ by omega) ?_
      exact v_retI dX9_set_45 trivial (by simp only [mSet, if_pos h9, if_neg h27]; exact ⟨rfl, rfl⟩)

set_option maxRecDepth 4000 in
theorem c_X9_element {G : GG} {dc : Nat} {I : Nat → Nat → Int32} {L : Nat → Nat → Int64} {s i : Int32} (hW : Wm dc I) : Cn G yX9_element cX9_element 3 (some .long) 1 0 0 [.ref 39, .int s, .int i] (Mm dc I L) (Is (some (.long (if inR s 8 then (if I 60 (tn s) = nI 1 then (if ¬ i < 0 ∧ ¬ I 62 (tn s) ≤ i then L 63 (30 * tn s + tn i) else lN 0) else lN 0) else lN 0))) (Mm dc I L)) := by
  refine Cn.of' (by decide) (Nat.le_of_ble_eq_true rfl) rfl ?_
  refine v_ild1 dX9_element_0 ?_
  refine v_S1 c_X9_isShelf lk_X9_162 dX9_element_1 (by decide) (Nat.le_of_ble_eq_true rfl) ?_
  refine v_ifeq_b (tgt := 49) dX9_element_4 (by decide) (fun h4 => ?_) (fun h4 => ?_)
  · refine v_lcN0 dX9_element_49 ?_
    exact v_retL dX9_element_50 trivial (by simp only [if_neg h4]; exact ⟨rfl, rfl⟩)
  · have hs9 : tn s < 8 := (ix_R (by decide) h4).2.1
    refine v_ald0 dX9_element_7 ?_
    refine v_getP (q := 60) dX9_element_8 fl_X9_84 (by first | rfl | exact lay_door (by omega) | exact lay_dt (by omega) | exact lay_da (by omega) | exact lay_sh (by omega) | exact lay_se (by omega)) rfl (by omega) rfl ?_
    refine v_ild1 dX9_element_11 ?_
    refine v_iald dX9_element_12 (by first | rfl | exact lay_door (by omega) | exact lay_dt (by omega) | exact lay_da (by omega) | exact lay_sh (by omega) | exact lay_se (by omega)) (by omega) (ix_R (by decide) h4) ?_
    refine v_icN (n := 1) dX9_element_13 (by decide) ?_
    refine v_icmp_ne (tgt := 49) dX9_element_14 (by decide) (fun h14 => ?_) (fun h14 => ?_)
    · refine v_lcN0 dX9_element_49 ?_
      exact v_retL dX9_element_50 trivial (by simp only [if_pos h4, if_neg h14]; exact ⟨rfl, rfl⟩)
    · refine v_ild2 dX9_element_17 ?_
      refine v_i2l dX9_element_18 ?_
      refine v_lcN0 dX9_element_19 ?_
      refine v_ald0 dX9_element_20 ?_
      refine v_getP (q := 62) dX9_element_21 fl_X9_90 (by first | rfl | exact lay_door (by omega) | exact lay_dt (by omega) | exact lay_da (by omega) | exact lay_sh (by omega) | exact lay_se (by omega)) rfl (by omega) rfl ?_
      refine v_ild1 dX9_element_24 ?_
      refine v_iald dX9_element_25 (by first | rfl | exact lay_door (by omega) | exact lay_dt (by omega) | exact lay_da (by omega) | exact lay_sh (by omega) | exact lay_se (by omega)) (by omega) (ix_R (by decide) h4) ?_
      refine v_icN (n := 1) dX9_element_26 (by decide) ?_
      refine v_isub dX9_element_27 ?_
      refine v_i2l dX9_element_28 ?_
      refine v_S3 (c_isInS (by have := (hW.sz hs9).2; omega) (hW.sz hs9).1 (by decide)) lk_X9_152 dX9_element_29 (by decide) (Nat.le_of_ble_eq_true rfl) ?_
      refine v_ifeq_b (tgt := 49) dX9_element_32 (by decide) (fun h32 => ?_) (fun h32 => ?_)
      · refine v_lcN0 dX9_element_49 ?_
        exact v_retL dX9_element_50 trivial (by simp only [if_pos h4, if_pos h14, if_neg h32]; exact ⟨rfl, rfl⟩)
      · refine v_ald0 dX9_element_35 ?_
        refine v_getP (q := 63) dX9_element_36 fl_X9_93 (by first | rfl | exact lay_door (by omega) | exact lay_dt (by omega) | exact lay_da (by omega) | exact lay_sh (by omega) | exact lay_se (by omega)) rfl (by omega) rfl ?_
        refine v_bipush (v := nI 30) dX9_element_39 (by decide) ?_
        refine v_ild1 dX9_element_41 ?_
        refine v_imul dX9_element_42 ?_
        refine v_ild2 dX9_element_43 ?_
        refine v_iadd dX9_element_44 ?_
        refine v_lald dX9_element_45 (by first | rfl | exact lay_door (by omega) | exact lay_dt (by omega) | exact lay_da (by omega) | exact lay_sh (by omega) | exact lay_se (by omega)) (by omega) (ix_mul (ix_R (by decide) h4).1 (tn_lt (hW.sz hs9).1 (by have := (hW.sz hs9).2; omega) h32).2 (by have := (tn_lt (hW.sz hs9).1 (by have := (hW.sz hs9).2; omega) h32).1; have := (hW.sz hs9).2; omega) (by decide)) ?_
        refine v_goto (tgt := 50) dX9_element_46 (by decide) ?_
        exact v_retL dX9_element_50 trivial (by simp only [if_pos h4, if_pos h14, if_pos h32]; exact ⟨rfl, rfl⟩)

def mSho (dc : Nat) (s b : Int32) : Nat := if inR s 8 then (if b = -1 then 0 else (if inR b dc then 0 else 1)) else 1
def mShI (I : Nat → Nat → Int32) (s : Nat) (b : Int32) : Nat → Nat → Int32 := u2 (u2 I 60 s (if b = -1 then nI 0 else nI 2)) 61 s b

set_option maxRecDepth 4000 in
theorem c_X9_show {G : GG} {dc : Nat} {I : Nat → Nat → Int32} {L : Nat → Nat → Int64} {s b : Int32} (hW : Wm dc I) : Cn G yX9_show cX9_show 3 (some .int) 1 0 0 [.ref 39, .int s, .int b] (Mm dc I L) (Is (some (.int (oR (mSho dc s b) (if b = -1 then nI 0 else nI 1)))) (pM (mSho dc s b) dc I L (Mm dc (mShI I (tn s) b) (L)))) := by
  refine Cn.of' (by decide) (Nat.le_of_ble_eq_true rfl) rfl ?_
  refine v_ild1 dX9_show_0 ?_
  refine v_S1 c_X9_isShelf lk_X9_162 dX9_show_1 (by decide) (Nat.le_of_ble_eq_true rfl) ?_
  refine v_ifeq_b (tgt := 20) dX9_show_4 (by decide) (fun h4 => ?_) (fun h4 => ?_)
  · refine v_ald0 dX9_show_20 ?_
    refine v_icm1 dX9_show_21 ?_
    refine v_V1 (c_X9_no (k := 1) (by decide) (by decide) (by decide)) lk_X9_146 dX9_show_22 (by decide) (Nat.le_of_ble_eq_true rfl) (by first | rfl | exact lay_door (by omega) | exact lay_dt (by omega) | exact lay_da (by omega) | exact lay_sh (by omega) | exact lay_se (by omega)) (show _ < 78 + 3 * _ by omega) ?_
    exact v_retI dX9_show_25 trivial (by simp only [mSho, mShI, if_neg h4]; exact ⟨rfl, rfl⟩)
  · refine v_ild2 dX9_show_7 ?_
    refine v_icm1 dX9_show_8 ?_
    refine v_icmp_eq (tgt := 26) dX9_show_9 (by decide) (fun h9 => ?_) (fun h9 => ?_)
    · refine v_ald0 dX9_show_26 ?_
      refine v_getP (q := 60) dX9_show_27 fl_X9_84 (by first | rfl | exact lay_door (by omega) | exact lay_dt (by omega) | exact lay_da (by omega) | exact lay_sh (by omega) | exact lay_se (by omega)) rfl (by omega) rfl ?_
      refine v_ild1 dX9_show_30 ?_
      refine v_ild2 dX9_show_31 ?_
      refine v_icm1 dX9_show_32 ?_
      refine v_icmp_ne (tgt := 40) dX9_show_33 (by decide) (fun h33 => absurd h9 h33) (fun h33 => ?_)
      refine v_icN (n := 0) dX9_show_36 (by decide) ?_
      refine v_goto (tgt := 41) dX9_show_37 (by decide) ?_
      refine v_iast dX9_show_41 (by first | rfl | exact lay_door (by omega) | exact lay_dt (by omega) | exact lay_da (by omega) | exact lay_sh (by omega) | exact lay_se (by omega)) (by omega) (ix_R (by decide) h4) ?_
      refine v_ald0 dX9_show_42 ?_
      refine v_getP (q := 61) dX9_show_43 fl_X9_87 (by first | rfl | exact lay_door (by omega) | exact lay_dt (by omega) | exact lay_da (by omega) | exact lay_sh (by omega) | exact lay_se (by omega)) rfl (by omega) rfl ?_
      refine v_ild1 dX9_show_46 ?_
      refine v_ild2 dX9_show_47 ?_
      refine v_iast dX9_show_48 (by first | rfl | exact lay_door (by omega) | exact lay_dt (by omega) | exact lay_da (by omega) | exact lay_sh (by omega) | exact lay_se (by omega)) (by omega) (ix_R (by decide) h4) ?_
      refine v_ild2 dX9_show_49 ?_
      refine v_icm1 dX9_show_50 ?_
      refine v_icmp_ne (tgt := 58) dX9_show_51 (by decide) (fun h51 => absurd h9 h51) (fun h51 => ?_)
      refine v_icN (n := 0) dX9_show_54 (by decide) ?_
      refine v_goto (tgt := 59) dX9_show_55 (by decide) ?_
      exact v_retI dX9_show_59 trivial (by simp only [mSho, mShI, if_pos h4, if_pos h9]; exact ⟨rfl, rfl⟩)
    · refine v_ald0 dX9_show_12 ?_
      refine v_ild2 dX9_show_13 ?_
      refine v_V1 (c_mDoor hW) lk_X9_172 dX9_show_14 (by decide) (Nat.le_of_ble_eq_true rfl) (by first | rfl | exact lay_door (by omega) | exact lay_dt (by omega) | exact lay_da (by omega) | exact lay_sh (by omega) | exact lay_se (by omega)) (show _ < 78 + 3 * _ by omega) ?_
      refine v_ifne_b (tgt := 26) dX9_show_17 (by decide) (fun h17 => ?_) (fun h17 => ?_)
      · refine v_ald0 dX9_show_26 ?_
        refine v_getP (q := 60) dX9_show_27 fl_X9_84 (by first | rfl | exact lay_door (by omega) | exact lay_dt (by omega) | exact lay_da (by omega) | exact lay_sh (by omega) | exact lay_se (by omega)) rfl (by omega) rfl ?_
        refine v_ild1 dX9_show_30 ?_
        refine v_ild2 dX9_show_31 ?_
        refine v_icm1 dX9_show_32 ?_
        refine v_icmp_ne (tgt := 40) dX9_show_33 (by decide) (fun h33 => ?_) (fun h33 => absurd h33 h9)
        refine v_icN (n := 2) dX9_show_40 (by decide) ?_
        refine v_iast dX9_show_41 (by first | rfl | exact lay_door (by omega) | exact lay_dt (by omega) | exact lay_da (by omega) | exact lay_sh (by omega) | exact lay_se (by omega)) (by omega) (ix_R (by decide) h4) ?_
        refine v_ald0 dX9_show_42 ?_
        refine v_getP (q := 61) dX9_show_43 fl_X9_87 (by first | rfl | exact lay_door (by omega) | exact lay_dt (by omega) | exact lay_da (by omega) | exact lay_sh (by omega) | exact lay_se (by omega)) rfl (by omega) rfl ?_
        refine v_ild1 dX9_show_46 ?_
        refine v_ild2 dX9_show_47 ?_
        refine v_iast dX9_show_48 (by first | rfl | exact lay_door (by omega) | exact lay_dt (by omega) | exact lay_da (by omega) | exact lay_sh (by omega) | exact lay_se (by omega)) (by omega) (ix_R (by decide) h4) ?_
        refine v_ild2 dX9_show_49 ?_
        refine v_icm1 dX9_show_50 ?_
        refine v_icmp_ne (tgt := 58) dX9_show_51 (by decide) (fun h51 => ?_) (fun h51 => absurd h51 h9)
        refine v_icN (n := 1) dX9_show_58 (by decide) ?_
        exact v_retI dX9_show_59 trivial (by simp only [mSho, mShI, if_pos h4, if_neg h9, if_pos h17]; exact ⟨rfl, rfl⟩)
      · refine v_ald0 dX9_show_20 ?_
        refine v_icm1 dX9_show_21 ?_
        refine v_V1 (c_X9_no (k := 1) (by decide) (by decide) (by decide)) lk_X9_146 dX9_show_22 (by decide) (Nat.le_of_ble_eq_true rfl) (by first | rfl | exact lay_door (by omega) | exact lay_dt (by omega) | exact lay_da (by omega) | exact lay_sh (by omega) | exact lay_se (by omega)) (show _ < 78 + 3 * _ by omega) ?_
        exact v_retI dX9_show_25 trivial (by simp only [mSho, mShI, if_pos h4, if_neg h9, if_neg h17]; exact ⟨rfl, rfl⟩)

def mBlk (I : Nat → Nat → Int32) (s : Int32) : Nat := if inR s 8 then (if I 60 (tn s) = nI 2 then 0 else (if I 60 (tn s) = nI 1 then 2 else 3)) else 1

set_option maxRecDepth 4000 in
theorem c_X9_blockIn {G : GG} {dc : Nat} {I : Nat → Nat → Int32} {L : Nat → Nat → Int64} {s : Int32} (hW : Wm dc I) : Cn G yX9_blockIn cX9_blockIn 2 (some .int) 1 0 0 [.ref 39, .int s] (Mm dc I L) (Is (some (.int (oR (mBlk I s) (I 40 (tn (I 61 (tn s))))))) (pM (mBlk I s) dc I L (Mm dc (I) (L)))) := by
  refine Cn.of' (by decide) (Nat.le_of_ble_eq_true rfl) rfl ?_
  refine v_ild1 dX9_blockIn_0 ?_
  refine v_S1 c_X9_isShelf lk_X9_162 dX9_blockIn_1 (by decide) (Nat.le_of_ble_eq_true rfl) ?_
  refine v_ifne_b (tgt := 13) dX9_blockIn_4 (by decide) (fun h4 => ?_) (fun h4 => ?_)
  · have hs9 : tn s < 8 := (ix_R (by decide) h4).2.1
    refine v_ald0 dX9_blockIn_13 ?_
    refine v_getP (q := 60) dX9_blockIn_14 fl_X9_84 (by first | rfl | exact lay_door (by omega) | exact lay_dt (by omega) | exact lay_da (by omega) | exact lay_sh (by omega) | exact lay_se (by omega)) rfl (by omega) rfl ?_
    refine v_ild1 dX9_blockIn_17 ?_
    refine v_iald dX9_blockIn_18 (by first | rfl | exact lay_door (by omega) | exact lay_dt (by omega) | exact lay_da (by omega) | exact lay_sh (by omega) | exact lay_se (by omega)) (by omega) (ix_R (by decide) h4) ?_
    refine v_icN (n := 2) dX9_blockIn_19 (by decide) ?_
    refine v_icmp_eq (tgt := 45) dX9_blockIn_20 (by decide) (fun h20 => ?_) (fun h20 => ?_)
    · have hd9 := tn_lt rfl (by have := hW.1; omega) ((hW.2.2.1 _ hs9).2 h20)
      have hc9 := hW.1
      refine v_ald0 dX9_blockIn_45 ?_
      refine v_getP (q := 40) dX9_blockIn_46 fl_X9_7 (by first | rfl | exact lay_door (by omega) | exact lay_dt (by omega) | exact lay_da (by omega) | exact lay_sh (by omega) | exact lay_se (by omega)) rfl (by omega) rfl ?_
      refine v_ald0 dX9_blockIn_49 ?_
      refine v_getP (q := 61) dX9_blockIn_50 fl_X9_87 (by first | rfl | exact lay_door (by omega) | exact lay_dt (by omega) | exact lay_da (by omega) | exact lay_sh (by omega) | exact lay_se (by omega)) rfl (by omega) rfl ?_
      refine v_ild1 dX9_blockIn_53 ?_
      refine v_iald dX9_blockIn_54 (by first | rfl | exact lay_door (by omega) | exact lay_dt (by omega) | exact lay_da (by omega) | exact lay_sh (by omega) | exact lay_se (by omega)) (by omega) (ix_R (by decide) h4) ?_
      refine v_iald dX9_blockIn_55 (by first | rfl | exact lay_door (by omega) | exact lay_dt (by omega) | exact lay_da (by omega) | exact lay_sh (by omega) | exact lay_se (by omega)) (by omega) ⟨hd9.2, by omega, by decide⟩ ?_
      exact v_retI dX9_blockIn_56 trivial (by simp only [mBlk, if_pos h4, if_pos h20]; exact ⟨rfl, rfl⟩)
    · refine v_ald0 dX9_blockIn_23 ?_
      refine v_ald0 dX9_blockIn_24 ?_
      refine v_getP (q := 60) dX9_blockIn_25 fl_X9_84 (by first | rfl | exact lay_door (by omega) | exact lay_dt (by omega) | exact lay_da (by omega) | exact lay_sh (by omega) | exact lay_se (by omega)) rfl (by omega) rfl ?_
      refine v_ild1 dX9_blockIn_28 ?_
      refine v_iald dX9_blockIn_29 (by first | rfl | exact lay_door (by omega) | exact lay_dt (by omega) | exact lay_da (by omega) | exact lay_sh (by omega) | exact lay_se (by omega)) (by omega) (ix_R (by decide) h4) ?_
      refine v_icN (n := 1) dX9_blockIn_30 (by decide) ?_
      refine v_icmp_ne (tgt := 39) dX9_blockIn_31 (by decide) (fun h31 => ?_) (fun h31 => ?_)
      · refine v_bipush (v := -3) dX9_blockIn_39 (by decide) ?_
        refine v_V1 (c_X9_no (k := 3) (by decide) (by decide) (by decide)) lk_X9_146 dX9_blockIn_41 (by decide) (Nat.le_of_ble_eq_true rfl) (by first | rfl | exact lay_door (by omega) | exact lay_dt (by omega) | exact lay_da (by omega) | exact lay_sh (by omega) | exact lay_se (by omega)) (show _ < 78 + 3 * _ by omega) ?_
        exact v_retI dX9_blockIn_44 trivial (by simp only [mBlk, if_pos h4, if_neg h20, if_neg h31]; exact ⟨rfl, rfl⟩)
      · refine v_bipush (v := -2) dX9_blockIn_34 (by decide) ?_
        refine v_goto (tgt := 41) dX9_blockIn_36 (by decide) ?_
        refine v_V1 (c_X9_no (k := 2) (by decide) (by decide) (by decide)) lk_X9_146 dX9_blockIn_41 (by decide) (Nat.le_of_ble_eq_true rfl) (by first | rfl | exact lay_door (by omega) | exact lay_dt (by omega) | exact lay_da (by omega) | exact lay_sh (by omega) | exact lay_se (by omega)) (show _ < 78 + 3 * _ by omega) ?_
        exact v_retI dX9_blockIn_44 trivial (by simp only [mBlk, if_pos h4, if_neg h20, if_pos h31]; exact ⟨rfl, rfl⟩)
  · refine v_ald0 dX9_blockIn_7 ?_
    refine v_icm1 dX9_blockIn_8 ?_
    refine v_V1 (c_X9_no (k := 1) (by decide) (by decide) (by decide)) lk_X9_146 dX9_blockIn_9 (by decide) (Nat.le_of_ble_eq_true rfl) (by first | rfl | exact lay_door (by omega) | exact lay_dt (by omega) | exact lay_da (by omega) | exact lay_sh (by omega) | exact lay_se (by omega)) (show _ < 78 + 3 * _ by omega) ?_
    exact v_retI dX9_blockIn_12 trivial (by simp only [mBlk, if_neg h4]; exact ⟨rfl, rfl⟩)
