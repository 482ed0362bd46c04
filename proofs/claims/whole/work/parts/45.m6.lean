set_option maxRecDepth 4000 in
theorem lp_div {G : GG} {μ : Mem} {x y : Int64} : ∀ (n a b : Nat), b < n → a < 2 ^ 63 → b < 2 ^ 63 → ∀ u v : Value, V G yX9_divisor cX9_divisor 10 (some .long) 0 0 0 6 [.long x, UU, .long y, UU, .long (lN a), UU, .long (lN b), UU, u, v] [] μ (Is (some (.long (lN (Nat.gcd a b)))) μ) := by
  intro n
  induction n with
  | zero => intro a b h; omega
  | succ n ih =>
    intro a b h ha hb u v
    refine v_lld6 dX9_divisor_6 ?_
    refine v_lcN0 dX9_divisor_8 ?_
    refine v_lcmp dX9_divisor_9 ?_
    refine v_if_eq (tgt := 31) dX9_divisor_10 (by decide) (fun h10 => ?_) (fun h10 => ?_)
    · refine v_lld4 dX9_divisor_31 ?_
      exact v_retL dX9_divisor_33 trivial (by have e0 : b = 0 := (pk_lEQ hb (by decide)).mp (lcmp0.mp h10); rw [e0, Nat.gcd_zero_right]; exact ⟨rfl, rfl⟩)
    · have hb9 : ¬ lN b = 0 := fun q => h10 (lcmp0.mpr q)
      have hb8 : b ≠ 0 := fun q => hb9 (by rw [q]; rfl)
      refine v_lld4 dX9_divisor_13 ?_
      refine v_lld6 dX9_divisor_15 ?_
      refine v_lrem dX9_divisor_17 hb9 ?_
      refine v_e0 (congrArg Value.long (pk_lRem ha (Nat.pos_of_ne_zero hb8) hb)) ?_
      refine v_lst8 dX9_divisor_18 rfl ?_
      refine v_lld6 dX9_divisor_20 ?_
      refine v_lst4 dX9_divisor_22 rfl ?_
      refine v_lld8 dX9_divisor_24 ?_
      refine v_lst6 dX9_divisor_26 rfl ?_
      refine v_goto (tgt := 6) dX9_divisor_28 (by decide) ?_
      have h9 := ih b (a % b) (by have := Nat.mod_lt a (Nat.pos_of_ne_zero hb8); omega) hb (by have := Nat.mod_lt a (Nat.pos_of_ne_zero hb8); omega)
      rw [show Nat.gcd a b = Nat.gcd b (a % b) by rw [Nat.gcd_comm a b, Nat.gcd_rec b a, Nat.gcd_comm]]
      exact h9 _ _

set_option maxRecDepth 4000 in
theorem c_X9_divisor {G : GG} {μ : Mem} {x y : Int64} {a b : Nat} (hx : x = lN a) (hy : y = lN b) (ha : a < 2 ^ 63) (hb : b < 2 ^ 63) : Cn G yX9_divisor cX9_divisor 10 (some .long) 0 0 0 [.long x, .long y] μ (Is (some (.long (lN (Nat.gcd a b)))) μ) := by
  subst hx
  subst hy
  refine Cn.of' (by decide) (Nat.le_of_ble_eq_true rfl) rfl ?_
  refine v_lld0 dX9_divisor_0 ?_
  refine v_lst4 dX9_divisor_1 rfl ?_
  refine v_lld2 dX9_divisor_3 ?_
  refine v_lst6 dX9_divisor_4 rfl ?_
  exact lp_div (b + 1) a b (by omega) ha hb _ _

theorem gcd_n0 {a b : Nat} (hb9 : b ≠ 0) (hb : b < 2 ^ 63) : ¬ lN (Nat.gcd a b) = 0 := fun q => by
  have e := (pk_lEQ (Nat.lt_of_le_of_lt (Nat.gcd_le_right a (Nat.pos_of_ne_zero hb9)) hb) (by decide)).mp (q.trans (show (0 : Int64) = lN 0 from rfl))
  exact hb9 (Nat.gcd_eq_zero_iff.mp e).2
def mSe (I : Nat → Nat → Int32) (d : Nat) : Bool := decide (¬ I 56 d = 0)
def mSf (I : Nat → Nat → Int32) (d : Nat) : Int64 := (I 51 d).toInt64
def mSb (I : Nat → Nat → Int32) (d : Nat) : Int64 := (if mCnt I d ≤ I 51 d then mCnt I d else I 51 d).toInt64
def mRg (a b : Nat) (w : Int32) : Int64 := if lN b = lN 0 then (if w = 0 then lN 0 else lN 1) else (if w = 0 then lN a / lN (Nat.gcd a b) else lN b / lN (Nat.gcd a b))

set_option maxRecDepth 4000 in
theorem lp_rgE {G : GG} {dc : Nat} {I : Nat → Nat → Int32} {L : Nat → Nat → Int64} {w : Int32} {a b : Nat} (hW : Wm dc I) (h1 : (sI (mCnt I) dc).toInt64 * (sCL (mSe I) (mSf I) dc) = lN a) (h2 : (sCL (mSe I) (mSb I) dc) = lN b) (ha : a < 2 ^ 63) (hb : b < 2 ^ 63) : V G yX9_right cX9_right 10 (some .long) 2 0 0 77 [.ref 39, .int w, .long (sCL (mSe I) (mSf I) dc), UU, .long (sCL (mSe I) (mSb I) dc), UU, .int (nI dc), UU, UU, UU] [] (Mm dc I L) (Is (some (.long (mRg a b w))) (Mm dc I L)) := by
  refine v_lld4 dX9_right_77 ?_
  refine v_lcN0 dX9_right_79 ?_
  refine v_lcmp dX9_right_80 ?_
  refine v_if_ne (tgt := 94) dX9_right_81 (by decide) (fun h81 => ?_) (fun h81 => ?_)
  · have hb9 : b ≠ 0 := fun q => h81 (lcmp0.mpr (by rw [h2, q]))
    have hg9 := gcd_n0 (a := a) hb9 hb
    refine v_ald0 dX9_right_94 ?_
    refine v_V0 (c_X9_countedAll hW) lk_X9_247 dX9_right_95 (by decide) (Nat.le_of_ble_eq_true rfl) (by first | rfl | exact lay_door (by omega) | exact lay_dt (by omega) | exact lay_da (by omega) | exact lay_sh (by omega) | exact lay_se (by omega)) (show _ < 78 + 3 * _ by omega) ?_
    refine v_i2l dX9_right_98 ?_
    refine v_lld2 dX9_right_99 ?_
    refine v_lmul dX9_right_100 ?_
    refine v_lst6 dX9_right_101 rfl ?_
    refine v_lld6 dX9_right_103 ?_
    refine v_lld4 dX9_right_105 ?_
    refine v_S2 (c_X9_divisor h1 h2 ha hb) lk_X9_251 dX9_right_107 (by decide) (Nat.le_of_ble_eq_true rfl) ?_
    refine v_lst8 dX9_right_110 rfl ?_
    refine v_ild1 dX9_right_112 ?_
    refine v_if_eq (tgt := 124) dX9_right_113 (by decide) (fun h113 => ?_) (fun h113 => ?_)
    · refine v_lld6 dX9_right_124 ?_
      refine v_lld8 dX9_right_126 ?_
      refine v_ldiv dX9_right_128 hg9 ?_
      exact v_retL dX9_right_129 trivial (by have e81 : ¬ lN b = lN 0 := fun z => h81 (by rw [h2]; exact lcmp0.mpr z); simp only [mRg, if_neg e81, if_pos h113, h1, h2]; exact ⟨rfl, rfl⟩)
    · refine v_lld4 dX9_right_116 ?_
      refine v_lld8 dX9_right_118 ?_
      refine v_ldiv dX9_right_120 hg9 ?_
      refine v_goto (tgt := 129) dX9_right_121 (by decide) ?_
      exact v_retL dX9_right_129 trivial (by have e81 : ¬ lN b = lN 0 := fun z => h81 (by rw [h2]; exact lcmp0.mpr z); simp only [mRg, if_neg e81, if_neg h113, h1, h2]; exact ⟨rfl, rfl⟩)
  · refine v_ild1 dX9_right_84 ?_
    refine v_if_eq (tgt := 92) dX9_right_85 (by decide) (fun h85 => ?_) (fun h85 => ?_)
    · refine v_lcN0 dX9_right_92 ?_
      exact v_retL dX9_right_93 trivial (by have e81 : lN b = lN 0 := h2 ▸ lcmp0.mp h81; simp only [mRg, if_pos e81, if_pos h85]; exact ⟨rfl, rfl⟩)
    · refine v_lcN1 dX9_right_88 ?_
      refine v_goto (tgt := 93) dX9_right_89 (by decide) ?_
      exact v_retL dX9_right_93 trivial (by have e81 : lN b = lN 0 := h2 ▸ lcmp0.mp h81; simp only [mRg, if_pos e81, if_neg h85]; exact ⟨rfl, rfl⟩)

set_option maxRecDepth 4000 in
theorem lp_rg {G : GG} {dc : Nat} {I : Nat → Nat → Int32} {L : Nat → Nat → Int64} {w : Int32} {a b : Nat} (hW : Wm dc I) (h1 : (sI (mCnt I) dc).toInt64 * (sCL (mSe I) (mSf I) dc) = lN a) (h2 : (sCL (mSe I) (mSb I) dc) = lN b) (ha : a < 2 ^ 63) (hb : b < 2 ^ 63) (k : Nat) : ∀ i, i + k = dc → V G yX9_right cX9_right 10 (some .long) 2 0 0 8 [.ref 39, .int w, .long (sCL (mSe I) (mSf I) i), UU, .long (sCL (mSe I) (mSb I) i), UU, .int (nI i), UU, UU, UU] [] (Mm dc I L) (Is (some (.long (mRg a b w))) (Mm dc I L)) := by
  induction k with
  | zero =>
    intro i hi
    have hc9 := hW.1
    have h24 : i ≤ dc := by omega
    refine v_ild6 dX9_right_8 ?_
    refine v_ald0 dX9_right_10 ?_
    refine v_getI dX9_right_11 fl_X9_139 (by first | rfl | exact lay_door (by omega) | exact lay_dt (by omega) | exact lay_da (by omega) | exact lay_sh (by omega) | exact lay_se (by omega)) rfl (by omega) ?_
    refine v_icmp_ge (tgt := 77) dX9_right_14 (by decide) (fun h14 => ?_) (fun h14 => absurd (by rw [hW.2.1]; exact nI_le (by omega) (by omega)) h14)
    obtain rfl : i = dc := by omega
    exact lp_rgE hW h1 h2 ha hb
  | succ k ih =>
    intro i hi
    have hc9 := hW.1
    have h24 : i ≤ dc := by omega
    refine v_ild6 dX9_right_8 ?_
    refine v_ald0 dX9_right_10 ?_
    refine v_getI dX9_right_11 fl_X9_139 (by first | rfl | exact lay_door (by omega) | exact lay_dt (by omega) | exact lay_da (by omega) | exact lay_sh (by omega) | exact lay_se (by omega)) rfl (by omega) ?_
    refine v_icmp_ge (tgt := 77) dX9_right_14 (by decide) (fun h14 => absurd h14 (by rw [hW.2.1]; exact nI_ge (by omega) (by omega))) (fun h14 => ?_)
    refine v_ald0 dX9_right_17 ?_
    refine v_getP (q := 56) dX9_right_18 fl_X9_59 (by first | rfl | exact lay_door (by omega) | exact lay_dt (by omega) | exact lay_da (by omega) | exact lay_sh (by omega) | exact lay_se (by omega)) rfl (by omega) rfl ?_
    refine v_ild6 dX9_right_21 ?_
    refine v_zald dX9_right_23 (by first | rfl | exact lay_door (by omega) | exact lay_dt (by omega) | exact lay_da (by omega) | exact lay_sh (by omega) | exact lay_se (by omega)) (by omega) ⟨rfl, by omega, by decide⟩ ?_
    refine v_if_ne (tgt := 30) dX9_right_24 (by decide) (fun h24 => ?_) (fun h24 => ?_)
    · refine v_lld2 dX9_right_30 ?_
      refine v_ald0 dX9_right_31 ?_
      refine v_getP (q := 51) dX9_right_32 fl_X9_43 (by first | rfl | exact lay_door (by omega) | exact lay_dt (by omega) | exact lay_da (by omega) | exact lay_sh (by omega) | exact lay_se (by omega)) rfl (by omega) rfl ?_
      refine v_ild6 dX9_right_35 ?_
      refine v_iald dX9_right_37 (by first | rfl | exact lay_door (by omega) | exact lay_dt (by omega) | exact lay_da (by omega) | exact lay_sh (by omega) | exact lay_se (by omega)) (by omega) ⟨rfl, by omega, by decide⟩ ?_
      refine v_i2l dX9_right_38 ?_
      refine v_ladd dX9_right_39 ?_
      refine v_lst2 dX9_right_40 rfl ?_
      refine v_lld4 dX9_right_41 ?_
      refine v_ald0 dX9_right_43 ?_
      refine v_getP (q := 51) dX9_right_44 fl_X9_43 (by first | rfl | exact lay_door (by omega) | exact lay_dt (by omega) | exact lay_da (by omega) | exact lay_sh (by omega) | exact lay_se (by omega)) rfl (by omega) rfl ?_
      refine v_ild6 dX9_right_47 ?_
      refine v_iald dX9_right_49 (by first | rfl | exact lay_door (by omega) | exact lay_dt (by omega) | exact lay_da (by omega) | exact lay_sh (by omega) | exact lay_se (by omega)) (by omega) ⟨rfl, by omega, by decide⟩ ?_
      refine v_ald0 dX9_right_50 ?_
      refine v_getP (q := 46) dX9_right_51 fl_X9_28 (by first | rfl | exact lay_door (by omega) | exact lay_dt (by omega) | exact lay_da (by omega) | exact lay_sh (by omega) | exact lay_se (by omega)) rfl (by omega) rfl ?_
      refine v_ild6 dX9_right_54 ?_
      refine v_iald dX9_right_56 (by first | rfl | exact lay_door (by omega) | exact lay_dt (by omega) | exact lay_da (by omega) | exact lay_sh (by omega) | exact lay_se (by omega)) (by omega) ⟨rfl, by omega, by decide⟩ ?_
      refine v_ald0 dX9_right_57 ?_
      refine v_ild6 dX9_right_58 ?_
      refine v_V1 (c_X9_struckAt rfl (by omega) (hW.2.2.2 i (by omega)).2.2.2) lk_X9_214 dX9_right_60 (by decide) (Nat.le_of_ble_eq_true rfl) (by first | rfl | exact lay_door (by omega) | exact lay_dt (by omega) | exact lay_da (by omega) | exact lay_sh (by omega) | exact lay_se (by omega)) (show _ < 78 + 3 * _ by omega) ?_
      refine v_isub dX9_right_63 ?_
      refine v_S2 c_X9_lesser lk_X9_244 dX9_right_64 (by decide) (Nat.le_of_ble_eq_true rfl) ?_
      refine v_i2l dX9_right_67 ?_
      refine v_ladd dX9_right_68 ?_
      refine v_lst4 dX9_right_69 rfl ?_
      refine v_inc6 dX9_right_71 rfl ?_
      refine v_goto (tgt := 8) dX9_right_74 (by decide) ?_
      rw [nI_1 i, show (sCL (mSe I) (mSf I) i) + (I 51 i).toInt64 = (sCL (mSe I) (mSf I) (i + 1)) from (sCL_t (decide_eq_true h24)).symm, show (sCL (mSe I) (mSb I) i) + (if I 46 i - nI (ct (pSt I i) (mny I i)) ≤ I 51 i then I 46 i - nI (ct (pSt I i) (mny I i)) else I 51 i).toInt64 = (sCL (mSe I) (mSb I) (i + 1)) from (sCL_t (decide_eq_true h24)).symm]
      exact ih (i + 1) (by omega)
    · refine v_goto (tgt := 71) dX9_right_27 (by decide) ?_
      refine v_inc6 dX9_right_71 rfl ?_
      refine v_goto (tgt := 8) dX9_right_74 (by decide) ?_
      rw [nI_1 i, show (sCL (mSe I) (mSf I) i) = (sCL (mSe I) (mSf I) (i + 1)) from (sCL_f (decide_eq_false (fun z => z h24))).symm, show (sCL (mSe I) (mSb I) i) = (sCL (mSe I) (mSb I) (i + 1)) from (sCL_f (decide_eq_false (fun z => z h24))).symm]
      exact ih (i + 1) (by omega)

set_option maxRecDepth 4000 in
theorem c_X9_right {G : GG} {dc : Nat} {I : Nat → Nat → Int32} {L : Nat → Nat → Int64} {w : Int32} {a b : Nat} (hW : Wm dc I) (h1 : (sI (mCnt I) dc).toInt64 * (sCL (mSe I) (mSf I) dc) = lN a) (h2 : (sCL (mSe I) (mSb I) dc) = lN b) (ha : a < 2 ^ 63) (hb : b < 2 ^ 63) : Cn G yX9_right cX9_right 10 (some .long) 2 0 0 [.ref 39, .int w] (Mm dc I L) (Is (some (.long (mRg a b w))) (Mm dc I L)) := by
  refine Cn.of' (by decide) (Nat.le_of_ble_eq_true rfl) rfl ?_
  refine v_lcN0 dX9_right_0 ?_
  refine v_lst2 dX9_right_1 rfl ?_
  refine v_lcN0 dX9_right_2 ?_
  refine v_lst4 dX9_right_3 rfl ?_
  refine v_icN (n := 0) dX9_right_5 (by decide) ?_
  refine v_ist6 dX9_right_6 rfl ?_
  exact lp_rg hW h1 h2 ha hb dc 0 (by omega)

def pHa (I : Nat → Nat → Int32) (k : Nat) : Bool := decide (k % 12 < mny I (k / 12) ∧ I 53 k = 0 ∧ ¬ I 47 k < nI 23 ∧ ¬ nI 62 < I 47 k)
def pHf (I : Nat → Nat → Int32) (k : Nat) : Bool := pHa I k && decide (I 47 k - I 47 k / nI 5 * nI 5 = 0)

set_option maxRecDepth 4000 in
theorem lp_hpm {G : GG} {dc : Nat} {I : Nat → Nat → Int32} {L : Nat → Nat → Int64} (hW : Wm dc I) (k : Nat) : ∀ i, i + k = 12 * dc → V G yX9_heap cX9_heap 4 (some .int) 1 0 0 6 [.ref 39, .int (nI (ct (pHa I) i)), .int (nI (ct (pHf I) i)), .int (nI i)] [] (Mm dc I L) (Is (some (.int (if nI (ct (pHa I) (12 * dc)) = 0 then nI 100 else nI 500 * nI (ct (pHf I) (12 * dc)) / nI (ct (pHa I) (12 * dc))))) (Mm dc I L)) := by
  induction k with
  | zero =>
    intro i hi
    have hc9 := hW.1
    have h24 : i ≤ 12 * dc := by omega
    refine v_ild3 dX9_heap_6 ?_
    refine v_bipush (v := nI 12) dX9_heap_7 (by decide) ?_
    refine v_ald0 dX9_heap_9 ?_
    refine v_getI dX9_heap_10 fl_X9_139 (by first | rfl | exact lay_door (by omega) | exact lay_dt (by omega) | exact lay_da (by omega) | exact lay_sh (by omega) | exact lay_se (by omega)) rfl (by omega) ?_
    refine v_imul dX9_heap_13 ?_
    refine v_e0 (congrArg Value.int (show _ = nI (12 * dc) from by rw [hW.2.1, pk_mul])) ?_
    refine v_icmp_ge (tgt := 92) dX9_heap_14 (by decide) (fun h14 => ?_) (fun h14 => absurd (nI_le (by omega) (by omega)) h14)
    refine v_ild1 dX9_heap_92 ?_
    refine v_if_ne (tgt := 101) dX9_heap_93 (by decide) (fun h93 => ?_) (fun h93 => ?_)
    · refine v_sipush (v := nI 500) dX9_heap_101 (by decide) ?_
      refine v_ild2 dX9_heap_104 ?_
      refine v_imul dX9_heap_105 ?_
      refine v_ild1 dX9_heap_106 ?_
      refine v_idiv dX9_heap_107 h93 ?_
      exact v_retI dX9_heap_108 trivial (by obtain rfl : i = 12 * dc := (by omega); simp only [if_neg h93]; exact ⟨rfl, rfl⟩)
    · refine v_bipush (v := nI 100) dX9_heap_96 (by decide) ?_
      refine v_goto (tgt := 108) dX9_heap_98 (by decide) ?_
      exact v_retI dX9_heap_108 trivial (by obtain rfl : i = 12 * dc := (by omega); simp only [if_pos h93]; exact ⟨rfl, rfl⟩)
  | succ k ih =>
    intro i hi
    have hc9 := hW.1
    have h24 : i ≤ 12 * dc := by omega
    refine v_ild3 dX9_heap_6 ?_
    refine v_bipush (v := nI 12) dX9_heap_7 (by decide) ?_
    refine v_ald0 dX9_heap_9 ?_
    refine v_getI dX9_heap_10 fl_X9_139 (by first | rfl | exact lay_door (by omega) | exact lay_dt (by omega) | exact lay_da (by omega) | exact lay_sh (by omega) | exact lay_se (by omega)) rfl (by omega) ?_
    refine v_imul dX9_heap_13 ?_
    refine v_e0 (congrArg Value.int (show _ = nI (12 * dc) from by rw [hW.2.1, pk_mul])) ?_
    refine v_icmp_ge (tgt := 92) dX9_heap_14 (by decide) (fun h14 => absurd h14 (nI_ge (by omega) (by omega))) (fun h14 => ?_)
    have hk9 : i / 12 < dc := by omega
    have hk8 : i / 12 < 24 := by omega
    refine v_ild3 dX9_heap_17 ?_
    refine v_bipush (v := nI 12) dX9_heap_18 (by decide) ?_
    refine v_irem dX9_heap_20 (by decide) ?_
    refine v_e0 (congrArg Value.int (show _ = nI (i % 12) from pk_rem (by omega) (by decide) (by decide))) ?_
    refine v_ald0 dX9_heap_21 ?_
    refine v_getP (q := 46) dX9_heap_22 fl_X9_28 (by first | rfl | exact lay_door (by omega) | exact lay_dt (by omega) | exact lay_da (by omega) | exact lay_sh (by omega) | exact lay_se (by omega)) rfl (by omega) rfl ?_
    refine v_ild3 dX9_heap_25 ?_
    refine v_bipush (v := nI 12) dX9_heap_26 (by decide) ?_
    refine v_idiv dX9_heap_28 (by decide) ?_
    refine v_e0 (congrArg Value.int (show _ = nI (i / 12) from pk_div (by omega) (by decide) (by decide))) ?_
    refine v_iald dX9_heap_29 (by first | rfl | exact lay_door (by omega) | exact lay_dt (by omega) | exact lay_da (by omega) | exact lay_sh (by omega) | exact lay_se (by omega)) (by omega) ⟨rfl, hk8, by decide⟩ ?_
    refine v_icmp_ge (tgt := 86) dX9_heap_30 (by decide) (fun h30 => ?_) (fun h30 => ?_)
    · refine v_inc3 dX9_heap_86 rfl ?_
      refine v_goto (tgt := 6) dX9_heap_89 (by decide) ?_
      have e1 : pHa I i = false := decide_eq_false (fun z => by have q1 : mny I (i / 12) ≤ i % 12 := (rg_le (hW.2.2.2 _ hk9).2.2.2 (by decide) (by omega)).mp h30; have := z.1; omega)
      have e2 : pHf I i = false := by rw [pHf, e1]; rfl
      rw [nct_f (p := pHa I) e1, nct_f (p := pHf I) e2, nI_1 i]
      exact ih (i + 1) (by omega)
    · refine v_ald0 dX9_heap_33 ?_
      refine v_getP (q := 53) dX9_heap_34 fl_X9_50 (by first | rfl | exact lay_door (by omega) | exact lay_dt (by omega) | exact lay_da (by omega) | exact lay_sh (by omega) | exact lay_se (by omega)) rfl (by omega) rfl ?_
      refine v_ild3 dX9_heap_37 ?_
      refine v_zald dX9_heap_38 (by first | rfl | exact lay_door (by omega) | exact lay_dt (by omega) | exact lay_da (by omega) | exact lay_sh (by omega) | exact lay_se (by omega)) (by omega) ⟨rfl, by omega, by decide⟩ ?_
      refine v_if_ne (tgt := 86) dX9_heap_39 (by decide) (fun h39 => ?_) (fun h39 => ?_)
      · refine v_inc3 dX9_heap_86 rfl ?_
        refine v_goto (tgt := 6) dX9_heap_89 (by decide) ?_
        have e1 : pHa I i = false := decide_eq_false (fun z => h39 z.2.1)
        have e2 : pHf I i = false := by rw [pHf, e1]; rfl
        rw [nct_f (p := pHa I) e1, nct_f (p := pHf I) e2, nI_1 i]
        exact ih (i + 1) (by omega)
      · refine v_ald0 dX9_heap_42 ?_
        refine v_getP (q := 47) dX9_heap_43 fl_X9_31 (by first | rfl | exact lay_door (by omega) | exact lay_dt (by omega) | exact lay_da (by omega) | exact lay_sh (by omega) | exact lay_se (by omega)) rfl (by omega) rfl ?_
        refine v_ild3 dX9_heap_46 ?_
        refine v_iald dX9_heap_47 (by first | rfl | exact lay_door (by omega) | exact lay_dt (by omega) | exact lay_da (by omega) | exact lay_sh (by omega) | exact lay_se (by omega)) (by omega) ⟨rfl, by omega, by decide⟩ ?_
        refine v_i2l dX9_heap_48 ?_
        refine v_ldc2 dX9_heap_49 kc_X9_255 ?_
        refine v_ldc2 dX9_heap_52 kc_X9_257 ?_
        refine v_S3 (c_isIn (lo := nI 23) (hi := nI 62) (by decide) (by decide)) lk_X9_152 dX9_heap_55 (by decide) (Nat.le_of_ble_eq_true rfl) ?_
        refine v_ifne_b (tgt := 64) dX9_heap_58 (by decide) (fun h58 => ?_) (fun h58 => ?_)
        · refine v_inc1 dX9_heap_64 rfl ?_
          refine v_ild2 dX9_heap_67 ?_
          refine v_ald0 dX9_heap_68 ?_
          refine v_getP (q := 47) dX9_heap_69 fl_X9_31 (by first | rfl | exact lay_door (by omega) | exact lay_dt (by omega) | exact lay_da (by omega) | exact lay_sh (by omega) | exact lay_se (by omega)) rfl (by omega) rfl ?_
          refine v_ild3 dX9_heap_72 ?_
          refine v_iald dX9_heap_73 (by first | rfl | exact lay_door (by omega) | exact lay_dt (by omega) | exact lay_da (by omega) | exact lay_sh (by omega) | exact lay_se (by omega)) (by omega) ⟨rfl, by omega, by decide⟩ ?_
          refine v_icN (n := 5) dX9_heap_74 (by decide) ?_
          refine v_irem dX9_heap_75 (by decide) ?_
          refine v_if_ne (tgt := 83) dX9_heap_76 (by decide) (fun h76 => ?_) (fun h76 => ?_)
          · refine v_icN (n := 0) dX9_heap_83 (by decide) ?_
            refine v_iadd dX9_heap_84 ?_
            refine v_ist2 dX9_heap_85 rfl ?_
            refine v_inc3 dX9_heap_86 rfl ?_
            refine v_goto (tgt := 6) dX9_heap_89 (by decide) ?_
            have e1 : pHa I i = true := decide_eq_true ⟨(rg_lt (hW.2.2.2 _ hk9).2.2.2 (by decide) (by omega)).mp h30, h39, h58⟩
            have e2 : pHf I i = false := by rw [pHf, decide_eq_false h76, Bool.and_false]
            rw [nct_t (p := pHa I) e1, nct_f' (p := pHf I) e2, nI_1 i]
            exact ih (i + 1) (by omega)
          · refine v_icN (n := 1) dX9_heap_79 (by decide) ?_
            refine v_goto (tgt := 84) dX9_heap_80 (by decide) ?_
            refine v_iadd dX9_heap_84 ?_
            refine v_ist2 dX9_heap_85 rfl ?_
            refine v_inc3 dX9_heap_86 rfl ?_
            refine v_goto (tgt := 6) dX9_heap_89 (by decide) ?_
            have e1 : pHa I i = true := decide_eq_true ⟨(rg_lt (hW.2.2.2 _ hk9).2.2.2 (by decide) (by omega)).mp h30, h39, h58⟩
            have e2 : pHf I i = true := by rw [pHf, e1, decide_eq_true h76]; rfl
            rw [nct_t (p := pHa I) e1, nct_t' (p := pHf I) e2, nI_1 i]
            exact ih (i + 1) (by omega)
        · refine v_goto (tgt := 86) dX9_heap_61 (by decide) ?_
          refine v_inc3 dX9_heap_86 rfl ?_
          refine v_goto (tgt := 6) dX9_heap_89 (by decide) ?_
          have e1 : pHa I i = false := decide_eq_false (fun z => h58 z.2.2)
          have e2 : pHf I i = false := by rw [pHf, e1]; rfl
          rw [nct_f (p := pHa I) e1, nct_f (p := pHf I) e2, nI_1 i]
          exact ih (i + 1) (by omega)

set_option maxRecDepth 4000 in
theorem c_X9_heap {G : GG} {dc : Nat} {I : Nat → Nat → Int32} {L : Nat → Nat → Int64} (hW : Wm dc I) : Cn G yX9_heap cX9_heap 4 (some .int) 1 0 0 [.ref 39] (Mm dc I L) (Is (some (.int (if nI (ct (pHa I) (12 * dc)) = 0 then nI 100 else nI 500 * nI (ct (pHf I) (12 * dc)) / nI (ct (pHa I) (12 * dc))))) (Mm dc I L)) := by
  refine Cn.of' (by decide) (Nat.le_of_ble_eq_true rfl) rfl ?_
  refine v_icN (n := 0) dX9_heap_0 (by decide) ?_
  refine v_ist1 dX9_heap_1 rfl ?_
  refine v_icN (n := 0) dX9_heap_2 (by decide) ?_
  refine v_ist2 dX9_heap_3 rfl ?_
  refine v_icN (n := 0) dX9_heap_4 (by decide) ?_
  refine v_ist3 dX9_heap_5 rfl ?_
  exact lp_hpm hW (12 * dc) 0 (by omega)

def mTld (I : Nat → Nat → Int32) (r c : Int32) : Int32 := if I 39 42 = 0 then -1 else (if inR r 7 then (if inR c 5 then (if nI 6 ≤ r then sC (pSm r c) (I 70) 24 else (if nI 4 ≤ c then sC (pSm r c) (I 70) 24 else (if I 73 (4 * tn r + tn c) = 0 then I 70 (4 * tn r + tn c) else -2))) else -1) else -1)

set_option maxRecDepth 4000 in
theorem lp_tld {G : GG} {dc : Nat} {I : Nat → Nat → Int32} {L : Nat → Nat → Int64} {r c : Int32} (k : Nat) : ∀ i, i + k = 24 → V G yX9_told cX9_told 5 (some .int) 1 0 0 78 [.ref 39, .int r, .int c, .int (sC (pSm r c) (I 70) i), .int (nI i)] [] (Mm dc I L) (Is (some (.int (sC (pSm r c) (I 70) 24))) (Mm dc I L)) := by
  induction k with
  | zero =>
    intro i hi
    refine v_ild4 dX9_told_78 ?_
    refine v_bipush (v := nI 24) dX9_told_80 (by decide) ?_
    refine v_icmp_ge (tgt := 132) dX9_told_82 (by decide) (fun h82 => ?_) (fun h82 => absurd (nI_le (by omega) (by omega)) h82)
    refine v_ild3 dX9_told_132 ?_
    exact v_retI dX9_told_133 trivial (by rw [show i = 24 by omega]; exact ⟨rfl, rfl⟩)
  | succ k ih =>
    intro i hi
    refine v_ild4 dX9_told_78 ?_
    refine v_bipush (v := nI 24) dX9_told_80 (by decide) ?_
    refine v_icmp_ge (tgt := 132) dX9_told_82 (by decide) (fun h82 => absurd h82 (nI_ge (by omega) (by omega))) (fun h82 => ?_)
    refine v_ild3 dX9_told_85 ?_
    refine v_ild1 dX9_told_86 ?_
    refine v_bipush (v := nI 6) dX9_told_87 (by decide) ?_
    refine v_icmp_eq (tgt := 100) dX9_told_89 (by decide) (fun h89 => ?_) (fun h89 => ?_)
    · refine v_ild2 dX9_told_100 ?_
      refine v_icN (n := 4) dX9_told_101 (by decide) ?_
      refine v_icmp_eq (tgt := 113) dX9_told_102 (by decide) (fun h102 => ?_) (fun h102 => ?_)
      · refine v_ald0 dX9_told_113 ?_
        refine v_getP (q := 70) dX9_told_114 fl_X9_115 (by first | rfl | exact lay_door (by omega) | exact lay_dt (by omega) | exact lay_da (by omega) | exact lay_sh (by omega) | exact lay_se (by omega)) rfl (by omega) rfl ?_
        refine v_ild4 dX9_told_117 ?_
        refine v_iald dX9_told_119 (by first | rfl | exact lay_door (by omega) | exact lay_dt (by omega) | exact lay_da (by omega) | exact lay_sh (by omega) | exact lay_se (by omega)) (by omega) ⟨rfl, by omega, by decide⟩ ?_
        refine v_goto (tgt := 124) dX9_told_120 (by decide) ?_
        refine v_iadd dX9_told_124 ?_
        refine v_ist3 dX9_told_125 rfl ?_
        refine v_inc4 dX9_told_126 rfl ?_
        refine v_goto (tgt := 78) dX9_told_129 (by decide) ?_
        rw [nI_1 i, show sC (pSm r c) (I 70) i + I 70 i = sC (pSm r c) (I 70) (i + 1) from (sC_t (decide_eq_true ⟨Or.inl h89, Or.inl h102⟩)).symm]
        exact ih (i + 1) (by omega)
      · refine v_ild4 dX9_told_105 ?_
        refine v_icN (n := 4) dX9_told_107 (by decide) ?_
        refine v_irem dX9_told_108 (by decide) ?_
        refine v_e0 (congrArg Value.int (show _ = nI (i % 4) from pk_rem (by omega) (by decide) (by decide))) ?_
        refine v_ild2 dX9_told_109 ?_
        refine v_icmp_ne (tgt := 123) dX9_told_110 (by decide) (fun h110 => ?_) (fun h110 => ?_)
        · refine v_icN (n := 0) dX9_told_123 (by decide) ?_
          refine v_iadd dX9_told_124 ?_
          refine v_ist3 dX9_told_125 rfl ?_
          refine v_inc4 dX9_told_126 rfl ?_
          refine v_goto (tgt := 78) dX9_told_129 (by decide) ?_
          rw [nI_1 i, i_add0, show sC (pSm r c) (I 70) i = sC (pSm r c) (I 70) (i + 1) from (sC_f (decide_eq_false (fun z => z.2.elim h102 (fun z => h110 z.symm)))).symm]
          exact ih (i + 1) (by omega)
        · refine v_ald0 dX9_told_113 ?_
          refine v_getP (q := 70) dX9_told_114 fl_X9_115 (by first | rfl | exact lay_door (by omega) | exact lay_dt (by omega) | exact lay_da (by omega) | exact lay_sh (by omega) | exact lay_se (by omega)) rfl (by omega) rfl ?_
          refine v_ild4 dX9_told_117 ?_
          refine v_iald dX9_told_119 (by first | rfl | exact lay_door (by omega) | exact lay_dt (by omega) | exact lay_da (by omega) | exact lay_sh (by omega) | exact lay_se (by omega)) (by omega) ⟨rfl, by omega, by decide⟩ ?_
          refine v_goto (tgt := 124) dX9_told_120 (by decide) ?_
          refine v_iadd dX9_told_124 ?_
          refine v_ist3 dX9_told_125 rfl ?_
          refine v_inc4 dX9_told_126 rfl ?_
          refine v_goto (tgt := 78) dX9_told_129 (by decide) ?_
          rw [nI_1 i, show sC (pSm r c) (I 70) i + I 70 i = sC (pSm r c) (I 70) (i + 1) from (sC_t (decide_eq_true ⟨Or.inl h89, Or.inr h110.symm⟩)).symm]
          exact ih (i + 1) (by omega)
    · refine v_ild4 dX9_told_92 ?_
      refine v_icN (n := 4) dX9_told_94 (by decide) ?_
      refine v_idiv dX9_told_95 (by decide) ?_
      refine v_e0 (congrArg Value.int (show _ = nI (i / 4) from pk_div (by omega) (by decide) (by decide))) ?_
      refine v_ild1 dX9_told_96 ?_
      refine v_icmp_ne (tgt := 123) dX9_told_97 (by decide) (fun h97 => ?_) (fun h97 => ?_)
      · refine v_icN (n := 0) dX9_told_123 (by decide) ?_
        refine v_iadd dX9_told_124 ?_
        refine v_ist3 dX9_told_125 rfl ?_
        refine v_inc4 dX9_told_126 rfl ?_
        refine v_goto (tgt := 78) dX9_told_129 (by decide) ?_
        rw [nI_1 i, i_add0, show sC (pSm r c) (I 70) i = sC (pSm r c) (I 70) (i + 1) from (sC_f (decide_eq_false (fun z => z.1.elim h89 (fun z => h97 z.symm)))).symm]
        exact ih (i + 1) (by omega)
      · refine v_ild2 dX9_told_100 ?_
        refine v_icN (n := 4) dX9_told_101 (by decide) ?_
        refine v_icmp_eq (tgt := 113) dX9_told_102 (by decide) (fun h102 => ?_) (fun h102 => ?_)
        · refine v_ald0 dX9_told_113 ?_
          refine v_getP (q := 70) dX9_told_114 fl_X9_115 (by first | rfl | exact lay_door (by omega) | exact lay_dt (by omega) | exact lay_da (by omega) | exact lay_sh (by omega) | exact lay_se (by omega)) rfl (by omega) rfl ?_
          refine v_ild4 dX9_told_117 ?_
          refine v_iald dX9_told_119 (by first | rfl | exact lay_door (by omega) | exact lay_dt (by omega) | exact lay_da (by omega) | exact lay_sh (by omega) | exact lay_se (by omega)) (by omega) ⟨rfl, by omega, by decide⟩ ?_
          refine v_goto (tgt := 124) dX9_told_120 (by decide) ?_
          refine v_iadd dX9_told_124 ?_
          refine v_ist3 dX9_told_125 rfl ?_
          refine v_inc4 dX9_told_126 rfl ?_
          refine v_goto (tgt := 78) dX9_told_129 (by decide) ?_
          rw [nI_1 i, show sC (pSm r c) (I 70) i + I 70 i = sC (pSm r c) (I 70) (i + 1) from (sC_t (decide_eq_true ⟨Or.inr h97.symm, Or.inl h102⟩)).symm]
          exact ih (i + 1) (by omega)
        · refine v_ild4 dX9_told_105 ?_
          refine v_icN (n := 4) dX9_told_107 (by decide) ?_
          refine v_irem dX9_told_108 (by decide) ?_
          refine v_e0 (congrArg Value.int (show _ = nI (i % 4) from pk_rem (by omega) (by decide) (by decide))) ?_
          refine v_ild2 dX9_told_109 ?_
          refine v_icmp_ne (tgt := 123) dX9_told_110 (by decide) (fun h110 => ?_) (fun h110 => ?_)
          · refine v_icN (n := 0) dX9_told_123 (by decide) ?_
            refine v_iadd dX9_told_124 ?_
            refine v_ist3 dX9_told_125 rfl ?_
            refine v_inc4 dX9_told_126 rfl ?_
            refine v_goto (tgt := 78) dX9_told_129 (by decide) ?_
            rw [nI_1 i, i_add0, show sC (pSm r c) (I 70) i = sC (pSm r c) (I 70) (i + 1) from (sC_f (decide_eq_false (fun z => z.2.elim h102 (fun z => h110 z.symm)))).symm]
            exact ih (i + 1) (by omega)
          · refine v_ald0 dX9_told_113 ?_
            refine v_getP (q := 70) dX9_told_114 fl_X9_115 (by first | rfl | exact lay_door (by omega) | exact lay_dt (by omega) | exact lay_da (by omega) | exact lay_sh (by omega) | exact lay_se (by omega)) rfl (by omega) rfl ?_
            refine v_ild4 dX9_told_117 ?_
            refine v_iald dX9_told_119 (by first | rfl | exact lay_door (by omega) | exact lay_dt (by omega) | exact lay_da (by omega) | exact lay_sh (by omega) | exact lay_se (by omega)) (by omega) ⟨rfl, by omega, by decide⟩ ?_
            refine v_goto (tgt := 124) dX9_told_120 (by decide) ?_
            refine v_iadd dX9_told_124 ?_
            refine v_ist3 dX9_told_125 rfl ?_
            refine v_inc4 dX9_told_126 rfl ?_
            refine v_goto (tgt := 78) dX9_told_129 (by decide) ?_
            rw [nI_1 i, show sC (pSm r c) (I 70) i + I 70 i = sC (pSm r c) (I 70) (i + 1) from (sC_t (decide_eq_true ⟨Or.inr h97.symm, Or.inr h110.symm⟩)).symm]
            exact ih (i + 1) (by omega)

set_option maxRecDepth 4000 in
theorem c_X9_told {G : GG} {dc : Nat} {I : Nat → Nat → Int32} {L : Nat → Nat → Int64} {r c : Int32} : Cn G yX9_told cX9_told 5 (some .int) 1 0 0 [.ref 39, .int r, .int c] (Mm dc I L) (Is (some (.int (mTld I r c))) (Mm dc I L)) := by
  refine Cn.of' (by decide) (Nat.le_of_ble_eq_true rfl) rfl ?_
  refine v_ald0 dX9_told_0 ?_
  refine v_getI dX9_told_1 fl_X9_289 (by first | rfl | exact lay_door (by omega) | exact lay_dt (by omega) | exact lay_da (by omega) | exact lay_sh (by omega) | exact lay_se (by omega)) rfl (by omega) ?_
  refine v_if_eq (tgt := 31) dX9_told_4 (by decide) (fun h4 => ?_) (fun h4 => ?_)
  · refine v_icm1 dX9_told_31 ?_
    exact v_retI dX9_told_32 trivial (by simp only [mTld, if_pos h4]; exact ⟨rfl, rfl⟩)
  · refine v_ild1 dX9_told_7 ?_
    refine v_i2l dX9_told_8 ?_
    refine v_lcN0 dX9_told_9 ?_
    refine v_ldc2 dX9_told_10 kc_X9_292 ?_
    refine v_S3 (c_isInR 6 (by decide) (by decide) (by decide)) lk_X9_152 dX9_told_13 (by decide) (Nat.le_of_ble_eq_true rfl) ?_
    refine v_ifeq_b (tgt := 31) dX9_told_16 (by decide) (fun h16 => ?_) (fun h16 => ?_)
    · refine v_icm1 dX9_told_31 ?_
      exact v_retI dX9_told_32 trivial (by simp only [mTld, if_neg h4, if_neg h16]; exact ⟨rfl, rfl⟩)
    · refine v_ild2 dX9_told_19 ?_
      refine v_i2l dX9_told_20 ?_
      refine v_lcN0 dX9_told_21 ?_
      refine v_ldc2 dX9_told_22 kc_X9_294 ?_
      refine v_S3 (c_isInR 4 (by decide) (by decide) (by decide)) lk_X9_152 dX9_told_25 (by decide) (Nat.le_of_ble_eq_true rfl) ?_
      refine v_ifne_b (tgt := 33) dX9_told_28 (by decide) (fun h28 => ?_) (fun h28 => ?_)
      · refine v_ild1 dX9_told_33 ?_
        refine v_bipush (v := nI 6) dX9_told_34 (by decide) ?_
        refine v_icmp_ge (tgt := 73) dX9_told_36 (by decide) (fun h36 => ?_) (fun h36 => ?_)
        · refine v_icN (n := 0) dX9_told_73 (by decide) ?_
          refine v_ist3 dX9_told_74 rfl ?_
          refine v_icN (n := 0) dX9_told_75 (by decide) ?_
          refine v_ist4 dX9_told_76 rfl ?_
          simp only [mTld, if_neg h4, if_pos h16, if_pos h28, if_pos h36]
          exact lp_tld 24 0 (by omega)
        · refine v_ild2 dX9_told_39 ?_
          refine v_icN (n := 4) dX9_told_40 (by decide) ?_
          refine v_icmp_ge (tgt := 73) dX9_told_41 (by decide) (fun h41 => ?_) (fun h41 => ?_)
          · refine v_icN (n := 0) dX9_told_73 (by decide) ?_
            refine v_ist3 dX9_told_74 rfl ?_
            refine v_icN (n := 0) dX9_told_75 (by decide) ?_
            refine v_ist4 dX9_told_76 rfl ?_
            simp only [mTld, if_neg h4, if_pos h16, if_pos h28, if_neg h36, if_pos h41]
            exact lp_tld 24 0 (by omega)
          · have hr9 := ix_R (N := 6) (by decide) ⟨h16.1, h36⟩
            have hc9 := ix_R (N := 4) (by decide) ⟨h28.1, h41⟩
            have hr8 := hr9.2.1
            have hc8 := hc9.2.1
            refine v_ald0 dX9_told_44 ?_
            refine v_getP (q := 73) dX9_told_45 fl_X9_124 (by first | rfl | exact lay_door (by omega) | exact lay_dt (by omega) | exact lay_da (by omega) | exact lay_sh (by omega) | exact lay_se (by omega)) rfl (by omega) rfl ?_
            refine v_icN (n := 4) dX9_told_48 (by decide) ?_
            refine v_ild1 dX9_told_49 ?_
            refine v_imul dX9_told_50 ?_
            refine v_ild2 dX9_told_51 ?_
            refine v_iadd dX9_told_52 ?_
            refine v_zald dX9_told_53 (by first | rfl | exact lay_door (by omega) | exact lay_dt (by omega) | exact lay_da (by omega) | exact lay_sh (by omega) | exact lay_se (by omega)) (by omega) (ix_mul hr9.1 hc9.1 (by omega) (by decide)) ?_
            refine v_if_eq (tgt := 62) dX9_told_54 (by decide) (fun h54 => ?_) (fun h54 => ?_)
            · refine v_ald0 dX9_told_62 ?_
              refine v_getP (q := 70) dX9_told_63 fl_X9_115 (by first | rfl | exact lay_door (by omega) | exact lay_dt (by omega) | exact lay_da (by omega) | exact lay_sh (by omega) | exact lay_se (by omega)) rfl (by omega) rfl ?_
              refine v_icN (n := 4) dX9_told_66 (by decide) ?_
              refine v_ild1 dX9_told_67 ?_
              refine v_imul dX9_told_68 ?_
              refine v_ild2 dX9_told_69 ?_
              refine v_iadd dX9_told_70 ?_
              refine v_iald dX9_told_71 (by first | rfl | exact lay_door (by omega) | exact lay_dt (by omega) | exact lay_da (by omega) | exact lay_sh (by omega) | exact lay_se (by omega)) (by omega) (ix_mul hr9.1 hc9.1 (by omega) (by decide)) ?_
              exact v_retI dX9_told_72 trivial (by simp only [mTld, if_neg h4, if_pos h16, if_pos h28, if_neg h36, if_neg h41, if_pos h54]; exact ⟨rfl, rfl⟩)
            · refine v_bipush (v := -2) dX9_told_57 (by decide) ?_
              refine v_goto (tgt := 72) dX9_told_59 (by decide) ?_
              exact v_retI dX9_told_72 trivial (by simp only [mTld, if_neg h4, if_pos h16, if_pos h28, if_neg h36, if_neg h41, if_neg h54]; exact ⟨rfl, rfl⟩)
      · refine v_icm1 dX9_told_31 ?_
        exact v_retI dX9_told_32 trivial (by simp only [mTld, if_neg h4, if_pos h16, if_neg h28]; exact ⟨rfl, rfl⟩)
