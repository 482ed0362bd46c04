/-- an element that is no number of heads -/
def pBad (f : Nat → Int32) (j : Nat) : Bool := decide (f j < 0 ∨ ¬ f j ≤ nI 99)
theorem fzf_t {p : Nat → Bool} {i k : Nat} (h : p i = true) : fzf p i (k + 1) = i := by simp only [fzf, h, if_true]
theorem fzf_f {p : Nat → Bool} {i k : Nat} (h : p i = false) : fzf p i (k + 1) = fzf p (i + 1) k := by simp [fzf, h]
def dSec (dc : Nat) (I : Nat → Nat → Int32) (L : Nat → Nat → Int64) (b s : Int32) : Nat := if inR b 6 then (if inR s 8 then (if sk I (tn s) = 0 then (if nI (ct (pOf I b) dc) ≤ I (23 + 2 * tn s) 2 then (if fzf (pBad (elI L (tn s))) 0 (ct (pOf I b) dc) < ct (pOf I b) dc then 6 else 0) else 5) else sk I (tn s)) else 1) else 1

set_option maxRecDepth 4000 in
theorem lp_sec {G : GG} {dc : Nat} {I : Nat → Nat → Int32} {L : Nat → Nat → Int64} {b s : Int32} {u4 : Value} (hW : Wx dc I) (hs : tn s < 8) {z w : Nat} (hz : I (23 + 2 * tn s) 2 = nI z) (hz2 : z ≤ 30) (hw : ct (pOf I b) dc = w) (hwz : w ≤ z) (k : Nat) : ∀ i, i + k = w → V G yX8_second cX8_second 7 (some .int) 3 0 0 71 [.ref 0, .int b, .int s, .ref (23 + 2 * tn s), u4, .int (nI w), .int (nI i)] [] (Mm dc I L) (Is (some (.int (oR (if (fzf (pBad (elI L (tn s))) i k) < w then 6 else 0) (sC (pOf I b) (fun d => elI L (tn s) (ct (pOf I b) d)) dc)))) (oM (if (fzf (pBad (elI L (tn s))) i k) < w then 6 else 0) dc I L (Mm dc (u2 (ksM I (elI L (tn s)) b dc) 0 8 (I 0 8 ||| (nI 1 <<< (b &&& 31)))) L))) := by
  induction k with
  | zero =>
    intro i hi
    refine v_ild6 dX8_second_71 ?_
    refine v_ild5 dX8_second_73 ?_
    refine v_icmp_ge (tgt := 111) dX8_second_75 (by decide) (fun h75 => ?_) (fun h75 => absurd (nI_le (by omega) (by omega)) h75)
    refine v_ald0 dX8_second_111 ?_
    refine v_ild1 dX8_second_112 ?_
    refine v_ald3 dX8_second_113 ?_
    refine v_V2 (c_X8_keepSecond hW hs hz hz2 (by omega)) lk_X8_240 dX8_second_114 (by decide) (Nat.le_of_ble_eq_true rfl) (by first | rfl | exact lay_door (by omega) | exact lay_dt (by omega) | exact lay_da (by omega) | exact lay_sh (by omega) | exact lay_se (by omega)) (show _ < 78 + 3 * _ by omega) ?_
    exact v_retI dX8_second_117 trivial (by rw [fzf, if_neg (by omega)]; exact ⟨rfl, rfl⟩)
  | succ k ih =>
    intro i hi
    refine v_ild6 dX8_second_71 ?_
    refine v_ild5 dX8_second_73 ?_
    refine v_icmp_ge (tgt := 111) dX8_second_75 (by decide) (fun h75 => absurd h75 (nI_ge (by omega) (by omega))) (fun h75 => ?_)
    refine v_ald3 dX8_second_78 ?_
    refine v_ild6 dX8_second_79 ?_
    refine v_V1 (c_X4_elementAsInt hs hz hz2 ⟨nI_pos (by omega), by rw [hz]; exact nI_ge (by omega) (by omega)⟩) lk_X8_237 dX8_second_81 (by decide) (Nat.le_of_ble_eq_true rfl) (by first | rfl | exact lay_door (by omega) | exact lay_dt (by omega) | exact lay_da (by omega) | exact lay_sh (by omega) | exact lay_se (by omega)) (show _ < 78 + 3 * _ by omega) ?_
    rw [tn_nI (by omega)]
    refine v_if_lt (tgt := 98) dX8_second_84 (by decide) (fun h84 => ?_) (fun h84 => ?_)
    · refine v_ald0 dX8_second_98 ?_
      refine v_bipush (v := -6) dX8_second_99 (by decide) ?_
      refine v_V1 (c_X8_refuse (k := 6) (by decide) (by decide) (by decide)) lk_X8_58 dX8_second_101 (by decide) (Nat.le_of_ble_eq_true rfl) (by first | rfl | exact lay_door (by omega) | exact lay_dt (by omega) | exact lay_da (by omega) | exact lay_sh (by omega) | exact lay_se (by omega)) (show _ < 78 + 3 * _ by omega) ?_
      exact v_retI dX8_second_104 trivial (by rw [fzf_t (p := pBad (elI L (tn s))) (decide_eq_true (Or.inl h84)), if_pos (by omega)]; exact ⟨rfl, rfl⟩)
    · refine v_ald3 dX8_second_87 ?_
      refine v_ild6 dX8_second_88 ?_
      refine v_V1 (c_X4_elementAsInt hs hz hz2 ⟨nI_pos (by omega), by rw [hz]; exact nI_ge (by omega) (by omega)⟩) lk_X8_237 dX8_second_90 (by decide) (Nat.le_of_ble_eq_true rfl) (by first | rfl | exact lay_door (by omega) | exact lay_dt (by omega) | exact lay_da (by omega) | exact lay_sh (by omega) | exact lay_se (by omega)) (show _ < 78 + 3 * _ by omega) ?_
      rw [tn_nI (by omega)]
      refine v_bipush (v := nI 99) dX8_second_93 (by decide) ?_
      refine v_icmp_le (tgt := 105) dX8_second_95 (by decide) (fun h95 => ?_) (fun h95 => ?_)
      · refine v_inc6 dX8_second_105 rfl ?_
        refine v_goto (tgt := 71) dX8_second_108 (by decide) ?_
        rw [nI_1 i, fzf_f (p := pBad (elI L (tn s))) (decide_eq_false (fun q => q.elim h84 (fun z => z h95)))]
        exact ih (i + 1) (by omega)
      · refine v_ald0 dX8_second_98 ?_
        refine v_bipush (v := -6) dX8_second_99 (by decide) ?_
        refine v_V1 (c_X8_refuse (k := 6) (by decide) (by decide) (by decide)) lk_X8_58 dX8_second_101 (by decide) (Nat.le_of_ble_eq_true rfl) (by first | rfl | exact lay_door (by omega) | exact lay_dt (by omega) | exact lay_da (by omega) | exact lay_sh (by omega) | exact lay_se (by omega)) (show _ < 78 + 3 * _ by omega) ?_
        exact v_retI dX8_second_104 trivial (by rw [fzf_t (p := pBad (elI L (tn s))) (decide_eq_true (Or.inr h95)), if_pos (by omega)]; exact ⟨rfl, rfl⟩)

set_option maxRecDepth 4000 in
theorem c_X8_second {G : GG} {dc : Nat} {I : Nat → Nat → Int32} {L : Nat → Nat → Int64} {b s : Int32} (hW : Wx dc I) : Cn G yX8_second cX8_second 7 (some .int) 3 0 0 [.ref 0, .int b, .int s] (Mm dc I L) (Is (some (.int (oR (dSec dc I L b s) (sC (pOf I b) (fun d => elI L (tn s) (ct (pOf I b) d)) dc)))) (oM (dSec dc I L b s) dc I L (Mm dc (u2 (ksM I (elI L (tn s)) b dc) 0 8 (I 0 8 ||| (nI 1 <<< (b &&& 31)))) L))) := by
  refine Cn.of' (by decide) (Nat.le_of_ble_eq_true rfl) rfl ?_
  refine v_ild1 dX8_second_0 ?_
  refine v_S1 c_X8_isBlock lk_X8_54 dX8_second_1 (by decide) (Nat.le_of_ble_eq_true rfl) ?_
  refine v_ifeq_b (tgt := 14) dX8_second_4 (by decide) (fun h4 => ?_) (fun h4 => ?_)
  · refine v_ald0 dX8_second_14 ?_
    refine v_icm1 dX8_second_15 ?_
    refine v_V1 (c_X8_refuse (k := 1) (by decide) (by decide) (by decide)) lk_X8_58 dX8_second_16 (by decide) (Nat.le_of_ble_eq_true rfl) (by first | rfl | exact lay_door (by omega) | exact lay_dt (by omega) | exact lay_da (by omega) | exact lay_sh (by omega) | exact lay_se (by omega)) (show _ < 78 + 3 * _ by omega) ?_
    exact v_retI dX8_second_19 trivial (by first | (simp only [dSec, if_neg h4]; exact ⟨rfl, rfl⟩) | (simp only [dSec, if_neg h4]; rw [oRk h35, oMk h35]; exact ⟨rfl, rfl⟩))
  · refine v_ild2 dX8_second_7 ?_
    refine v_S1 c_X8_isShelf lk_X8_80 dX8_second_8 (by decide) (Nat.le_of_ble_eq_true rfl) ?_
    refine v_ifne_b (tgt := 20) dX8_second_11 (by decide) (fun h11 => ?_) (fun h11 => ?_)
    · have hs9 : tn s < 8 := (ix_R (by decide) h11).2.1
      refine v_ald0 dX8_second_20 ?_
      refine v_getP (q := 1) dX8_second_21 fl_X8_11 (by first | rfl | exact lay_door (by omega) | exact lay_dt (by omega) | exact lay_da (by omega) | exact lay_sh (by omega) | exact lay_se (by omega)) rfl (by omega) rfl ?_
      refine v_ild2 dX8_second_24 ?_
      refine v_aald14 dX8_second_25 (by first | rfl | exact lay_door (by omega) | exact lay_dt (by omega) | exact lay_da (by omega) | exact lay_sh (by omega) | exact lay_se (by omega)) (by omega) (ix_R (by decide) h11) (Pc_s (ix_R (by decide) h11).2.1) ?_
      refine v_ast3 dX8_second_26 rfl ?_
      refine v_ald3 dX8_second_27 ?_
      refine v_V0 (c_fitR hs9) lk_X8_87 dX8_second_28 (by decide) (Nat.le_of_ble_eq_true rfl) (by first | rfl | exact lay_door (by omega) | exact lay_dt (by omega) | exact lay_da (by omega) | exact lay_sh (by omega) | exact lay_se (by omega)) (show _ < 78 + 3 * _ by omega) ?_
      refine v_ist4 dX8_second_31 rfl ?_
      refine v_ild4 dX8_second_33 ?_
      refine v_ifeq_o (sk_lt _ _) (tgt := 45) dX8_second_35 (by decide) (fun h35 => ?_) (fun h35 => ?_)
      · refine v_ald0 dX8_second_45 ?_
        refine v_ild1 dX8_second_46 ?_
        refine v_V1 (c_X8_doorsOf hW) lk_X8_234 dX8_second_47 (by decide) (Nat.le_of_ble_eq_true rfl) (by first | rfl | exact lay_door (by omega) | exact lay_dt (by omega) | exact lay_da (by omega) | exact lay_sh (by omega) | exact lay_se (by omega)) (show _ < 78 + 3 * _ by omega) ?_
        refine v_ist5 dX8_second_50 rfl ?_
        refine v_ald3 dX8_second_52 ?_
        refine v_getI dX8_second_53 fl_X8_153 (by first | rfl | exact lay_door (by omega) | exact lay_dt (by omega) | exact lay_da (by omega) | exact lay_sh (by omega) | exact lay_se (by omega)) rfl (by omega) ?_
        refine v_ild5 dX8_second_56 ?_
        refine v_icmp_ge (tgt := 68) dX8_second_58 (by decide) (fun h58 => ?_) (fun h58 => ?_)
        · refine v_icN (n := 0) dX8_second_68 (by decide) ?_
          refine v_ist6 dX8_second_69 rfl ?_
          simp only [dSec, if_pos h4, if_pos h11, if_pos h35, if_pos h58]
          exact lp_sec hW hs9 (hW.sz hs9).1 (hW.sz hs9).2 rfl (by rw [(hW.sz hs9).1] at h58; exact (nI_leI (by have := ct_le (pOf I b) dc; have := hW.1; omega) (by have := (hW.sz hs9).2; omega)).mp h58) (ct (pOf I b) dc) 0 (by omega)
        · refine v_ald0 dX8_second_61 ?_
          refine v_bipush (v := -5) dX8_second_62 (by decide) ?_
          refine v_V1 (c_X8_refuse (k := 5) (by decide) (by decide) (by decide)) lk_X8_58 dX8_second_64 (by decide) (Nat.le_of_ble_eq_true rfl) (by first | rfl | exact lay_door (by omega) | exact lay_dt (by omega) | exact lay_da (by omega) | exact lay_sh (by omega) | exact lay_se (by omega)) (show _ < 78 + 3 * _ by omega) ?_
          exact v_retI dX8_second_67 trivial (by first | (simp only [dSec, if_pos h4, if_pos h11, if_pos h35, if_neg h58]; exact ⟨rfl, rfl⟩) | (simp only [dSec, if_pos h4, if_pos h11, if_pos h35, if_neg h58]; rw [oRk h35, oMk h35]; exact ⟨rfl, rfl⟩))
      · refine v_ald0 dX8_second_38 ?_
        refine v_ild4 dX8_second_39 ?_
        refine v_V1 (by first | exact (c_X8_refuse (k := 1) (by decide) (by decide) (by decide)) | exact (c_X8_refuse (k := sk I (tn s)) (oRk h35 _) (sk_lt _ _) (Nat.one_le_iff_ne_zero.mpr h35))) lk_X8_58 dX8_second_41 (by decide) (Nat.le_of_ble_eq_true rfl) (by first | rfl | exact lay_door (by omega) | exact lay_dt (by omega) | exact lay_da (by omega) | exact lay_sh (by omega) | exact lay_se (by omega)) (show _ < 78 + 3 * _ by omega) ?_
        exact v_retI dX8_second_44 trivial (by first | (simp only [dSec, if_pos h4, if_pos h11, if_neg h35]; exact ⟨rfl, rfl⟩) | (simp only [dSec, if_pos h4, if_pos h11, if_neg h35]; rw [oRk h35, oMk h35]; exact ⟨rfl, rfl⟩))
    · refine v_ald0 dX8_second_14 ?_
      refine v_icm1 dX8_second_15 ?_
      refine v_V1 (c_X8_refuse (k := 1) (by decide) (by decide) (by decide)) lk_X8_58 dX8_second_16 (by decide) (Nat.le_of_ble_eq_true rfl) (by first | rfl | exact lay_door (by omega) | exact lay_dt (by omega) | exact lay_da (by omega) | exact lay_sh (by omega) | exact lay_se (by omega)) (show _ < 78 + 3 * _ by omega) ?_
      exact v_retI dX8_second_19 trivial (by first | (simp only [dSec, if_pos h4, if_neg h11]; exact ⟨rfl, rfl⟩) | (simp only [dSec, if_pos h4, if_neg h11]; rw [oRk h35, oMk h35]; exact ⟨rfl, rfl⟩))

/-- Euclid by k steps at most -/
def cdF : Nat → Int64 → Int64 → Int64
  | 0, a, _ => a
  | k + 1, a, b => if b = lN 0 then a else cdF k b (a - a / b * b)

set_option maxRecDepth 4000 in
theorem lp_cd {G : GG} {μ : Mem} {a0 b0 : Int64} (k : Nat) : ∀ i (a b : Int64) (u9 u10 : Value), i + k = 200 → V G yX8_commonDivisor cX8_commonDivisor 11 (some .long) 0 0 0 9 [.long a0, UU, .long b0, UU, .long a, UU, .long b, UU, .int (nI i), u9, u10] [] μ (Is (some (.long (cdF k a b))) μ) := by
  induction k with
  | zero =>
    intro i a b u9 u10 hi
    refine v_ild8 dX8_commonDivisor_9 ?_
    refine v_sipush (v := nI 200) dX8_commonDivisor_11 (by decide) ?_
    refine v_icmp_ge (tgt := 45) dX8_commonDivisor_14 (by decide) (fun h14 => ?_) (fun h14 => absurd (nI_le (by omega) (by omega)) h14)
    refine v_lld4 dX8_commonDivisor_45 ?_
    exact v_retL dX8_commonDivisor_47 trivial ⟨rfl, rfl⟩
  | succ k ih =>
    intro i a b u9 u10 hi
    refine v_ild8 dX8_commonDivisor_9 ?_
    refine v_sipush (v := nI 200) dX8_commonDivisor_11 (by decide) ?_
    refine v_icmp_ge (tgt := 45) dX8_commonDivisor_14 (by decide) (fun h14 => absurd h14 (nI_ge (by omega) (by decide))) (fun h14 => ?_)
    refine v_lld6 dX8_commonDivisor_17 ?_
    refine v_lcN0 dX8_commonDivisor_19 ?_
    refine v_lcmp dX8_commonDivisor_20 ?_
    refine v_if_eq (tgt := 45) dX8_commonDivisor_21 (by decide) (fun h21 => ?_) (fun h21 => ?_)
    · refine v_lld4 dX8_commonDivisor_45 ?_
      exact v_retL dX8_commonDivisor_47 trivial (by rw [cdF, if_pos (lcmp0.mp h21)]; exact ⟨rfl, rfl⟩)
    · refine v_lld4 dX8_commonDivisor_24 ?_
      refine v_lld6 dX8_commonDivisor_26 ?_
      refine v_lrem dX8_commonDivisor_28 (fun q => h21 (lcmp0.mpr q)) ?_
      refine v_lst9 dX8_commonDivisor_29 rfl ?_
      refine v_lld6 dX8_commonDivisor_31 ?_
      refine v_lst4 dX8_commonDivisor_33 rfl ?_
      refine v_lld9 dX8_commonDivisor_35 ?_
      refine v_lst6 dX8_commonDivisor_37 rfl ?_
      refine v_inc8 dX8_commonDivisor_39 rfl ?_
      refine v_goto (tgt := 9) dX8_commonDivisor_42 (by decide) ?_
      rw [nI_1 i, cdF, if_neg (fun q => h21 (lcmp0.mpr q))]
      exact ih (i + 1) _ _ _ _ (by omega)

set_option maxRecDepth 4000 in
theorem c_X8_commonDivisor {G : GG} {μ : Mem} {a b : Int64} : Cn G yX8_commonDivisor cX8_commonDivisor 11 (some .long) 0 0 0 [.long a, .long b] μ (Is (some (.long (cdF 200 a b))) μ) := by
  refine Cn.of' (by decide) (Nat.le_of_ble_eq_true rfl) rfl ?_
  refine v_lld0 dX8_commonDivisor_0 ?_
  refine v_lst4 dX8_commonDivisor_1 rfl ?_
  refine v_lld2 dX8_commonDivisor_3 ?_
  refine v_lst6 dX8_commonDivisor_4 rfl ?_
  refine v_icN (n := 0) dX8_commonDivisor_6 (by decide) ?_
  refine v_ist8 dX8_commonDivisor_7 rfl ?_
  exact lp_cd 200 0 a b _ _ (by omega)

def sCL (p : Nat → Bool) (f : Nat → Int64) : Nat → Int64
  | 0 => lN 0
  | n + 1 => if p n then sCL p f n + f n else sCL p f n
theorem sCL_t {p : Nat → Bool} {f : Nat → Int64} {n : Nat} (h : p n = true) : sCL p f (n + 1) = sCL p f n + f n := by simp only [sCL, h, if_true]
theorem sCL_f {p : Nat → Bool} {f : Nat → Int64} {n : Nat} (h : p n = false) : sCL p f (n + 1) = sCL p f n := by simp [sCL, h]
theorem sCL_cong {p q : Nat → Bool} {f g : Nat → Int64} : ∀ {n : Nat}, (∀ k, k < n → p k = q k ∧ (p k = true → f k = g k)) → sCL p f n = sCL q g n
  | 0, _ => rfl
  | n + 1, h => by
    have h1 := sCL_cong (n := n) (fun k hk => h k (by omega))
    obtain ⟨h2, h3⟩ := h n (by omega)
    cases hp : p n with
    | false => rw [sCL_f hp, sCL_f (by rw [← h2]; exact hp), h1]
    | true => rw [sCL_t hp, sCL_t (by rw [← h2]; exact hp), h1, h3 hp]
def pSe (I : Nat → Nat → Int32) (d : Nat) : Bool := decide (¬ I (78 + 3 * d) 13 = -1)
def fSe (I : Nat → Nat → Int32) (d : Nat) : Int64 := (I (78 + 3 * d) 13).toInt64
def fBo (I : Nat → Nat → Int32) (d : Nat) : Int64 := (if fCnt I d < I (78 + 3 * d) 13 then fCnt I d else I (78 + 3 * d) 13).toInt64
/-- put right, by the two sums, all heads and which part is asked for -/
def rgt (a b : Int64) (c w : Int32) : Int64 := if b = lN 0 then (if w = 0 then lN 0 else lN 1) else (if cdF 200 (c.toInt64 * a) b = lN 0 then (if w = 0 then lN 0 else lN 1) else (if w = 0 then c.toInt64 * a / cdF 200 (c.toInt64 * a) b else b / cdF 200 (c.toInt64 * a) b))

set_option maxRecDepth 4000 in
theorem lp_rt {G : GG} {dc : Nat} {I : Nat → Nat → Int32} {L : Nat → Nat → Int64} {w : Int32} (hW : Wx dc I) (k : Nat) : ∀ i, i + k = dc → ∀ u7 u8 u9 : Value, V G yX8_right cX8_right 10 (some .long) 3 0 0 8 [.ref 0, .int w, .long (sCL (pSe I) (fSe I) i), UU, .long (sCL (pSe I) (fBo I) i), UU, .int (nI i), u7, u8, u9] [] (Mm dc I L) (Is (some (.long (rgt (sCL (pSe I) (fSe I) dc) (sCL (pSe I) (fBo I) dc) (sI (fCnt I) dc) w))) (Mm dc I L)) := by
  induction k with
  | zero =>
    intro i hi u7 u8 u9
    have hc9 := hW.1
    have h24 : i ≤ dc := by omega
    refine v_ild6 dX8_right_8 ?_
    refine v_ald0 dX8_right_10 ?_
    refine v_getI dX8_right_11 fl_X8_69 (by first | rfl | exact lay_door (by omega) | exact lay_dt (by omega) | exact lay_da (by omega) | exact lay_sh (by omega) | exact lay_se (by omega)) rfl (by omega) ?_
    refine v_icmp_ge (tgt := 69) dX8_right_14 (by decide) (fun h14 => ?_) (fun h14 => absurd (by rw [hW.2.1]; exact nI_le (by omega) (by omega)) h14)
    refine v_lld4 dX8_right_69 ?_
    refine v_lcN0 dX8_right_71 ?_
    refine v_lcmp dX8_right_72 ?_
    refine v_if_ne (tgt := 86) dX8_right_73 (by decide) (fun h73 => ?_) (fun h73 => ?_)
    · obtain rfl : i = dc := by omega
      refine v_ald0 dX8_right_86 ?_
      refine v_V0 (c_X8_countedHeads hW) lk_X8_256 dX8_right_87 (by decide) (Nat.le_of_ble_eq_true rfl) (by first | rfl | exact lay_door (by omega) | exact lay_dt (by omega) | exact lay_da (by omega) | exact lay_sh (by omega) | exact lay_se (by omega)) (show _ < 78 + 3 * _ by omega) ?_
      refine v_i2l dX8_right_90 ?_
      refine v_lld2 dX8_right_91 ?_
      refine v_lmul dX8_right_92 ?_
      refine v_lst6 dX8_right_93 rfl ?_
      refine v_lld6 dX8_right_95 ?_
      refine v_lld4 dX8_right_97 ?_
      refine v_S2 c_X8_commonDivisor lk_X8_259 dX8_right_99 (by decide) (Nat.le_of_ble_eq_true rfl) ?_
      refine v_lst8 dX8_right_102 rfl ?_
      refine v_lld8 dX8_right_104 ?_
      refine v_lcN0 dX8_right_106 ?_
      refine v_lcmp dX8_right_107 ?_
      refine v_if_ne (tgt := 121) dX8_right_108 (by decide) (fun h108 => ?_) (fun h108 => ?_)
      · refine v_ild1 dX8_right_121 ?_
        refine v_if_eq (tgt := 133) dX8_right_122 (by decide) (fun h122 => ?_) (fun h122 => ?_)
        · refine v_lld6 dX8_right_133 ?_
          refine v_lld8 dX8_right_135 ?_
          refine v_ldiv dX8_right_137 (fun z => h108 (lcmp0.mpr z)) ?_
          exact v_retL dX8_right_138 trivial (by simp only [rgt, if_neg (fun z => h73 (lcmp0.mpr z)), if_neg (fun z => h108 (lcmp0.mpr z)), if_pos h122]; exact ⟨rfl, rfl⟩)
        · refine v_lld4 dX8_right_125 ?_
          refine v_lld8 dX8_right_127 ?_
          refine v_ldiv dX8_right_129 (fun z => h108 (lcmp0.mpr z)) ?_
          refine v_goto (tgt := 138) dX8_right_130 (by decide) ?_
          exact v_retL dX8_right_138 trivial (by simp only [rgt, if_neg (fun z => h73 (lcmp0.mpr z)), if_neg (fun z => h108 (lcmp0.mpr z)), if_neg h122]; exact ⟨rfl, rfl⟩)
      · refine v_ild1 dX8_right_111 ?_
        refine v_if_eq (tgt := 119) dX8_right_112 (by decide) (fun h112 => ?_) (fun h112 => ?_)
        · refine v_lcN0 dX8_right_119 ?_
          exact v_retL dX8_right_120 trivial (by simp only [rgt, if_neg (fun z => h73 (lcmp0.mpr z)), if_pos (lcmp0.mp h108), if_pos h112]; exact ⟨rfl, rfl⟩)
        · refine v_lcN1 dX8_right_115 ?_
          refine v_goto (tgt := 120) dX8_right_116 (by decide) ?_
          exact v_retL dX8_right_120 trivial (by simp only [rgt, if_neg (fun z => h73 (lcmp0.mpr z)), if_pos (lcmp0.mp h108), if_neg h112]; exact ⟨rfl, rfl⟩)
    · refine v_ild1 dX8_right_76 ?_
      refine v_if_eq (tgt := 84) dX8_right_77 (by decide) (fun h77 => ?_) (fun h77 => ?_)
      · refine v_lcN0 dX8_right_84 ?_
        exact v_retL dX8_right_85 trivial (by obtain rfl : i = dc := (by omega); simp only [rgt, if_pos (lcmp0.mp h73), if_pos h77]; exact ⟨rfl, rfl⟩)
      · refine v_lcN1 dX8_right_80 ?_
        refine v_goto (tgt := 85) dX8_right_81 (by decide) ?_
        exact v_retL dX8_right_85 trivial (by obtain rfl : i = dc := (by omega); simp only [rgt, if_pos (lcmp0.mp h73), if_neg h77]; exact ⟨rfl, rfl⟩)
  | succ k ih =>
    intro i hi u7 u8 u9
    have hc9 := hW.1
    have h24 : i ≤ dc := by omega
    refine v_ild6 dX8_right_8 ?_
    refine v_ald0 dX8_right_10 ?_
    refine v_getI dX8_right_11 fl_X8_69 (by first | rfl | exact lay_door (by omega) | exact lay_dt (by omega) | exact lay_da (by omega) | exact lay_sh (by omega) | exact lay_se (by omega)) rfl (by omega) ?_
    refine v_icmp_ge (tgt := 69) dX8_right_14 (by decide) (fun h14 => absurd h14 (by rw [hW.2.1]; exact nI_ge (by omega) (by omega))) (fun h14 => ?_)
    refine v_ald0 dX8_right_17 ?_
    refine v_getP (q := 2) dX8_right_18 fl_X8_17 (by first | rfl | exact lay_door (by omega) | exact lay_dt (by omega) | exact lay_da (by omega) | exact lay_sh (by omega) | exact lay_se (by omega)) rfl (by omega) rfl ?_
    refine v_ild6 dX8_right_21 ?_
    refine v_aald13 dX8_right_23 (by first | rfl | exact lay_door (by omega) | exact lay_dt (by omega) | exact lay_da (by omega) | exact lay_sh (by omega) | exact lay_se (by omega)) (by omega) ⟨rfl, by omega, by decide⟩ (Pc_d (by omega)) ?_
    refine v_ast7 dX8_right_24 rfl ?_
    refine v_ald7 dX8_right_26 ?_
    refine v_getI dX8_right_28 fl_X8_244 (by first | rfl | exact lay_door (by omega) | exact lay_dt (by omega) | exact lay_da (by omega) | exact lay_sh (by omega) | exact lay_se (by omega)) rfl (by omega) ?_
    refine v_icm1 dX8_right_31 ?_
    refine v_icmp_eq (tgt := 63) dX8_right_32 (by decide) (fun h32 => ?_) (fun h32 => ?_)
    · refine v_inc6 dX8_right_63 rfl ?_
      refine v_goto (tgt := 8) dX8_right_66 (by decide) ?_
      rw [nI_1 i]
      have h9 := ih (i + 1) (by omega)
      rw [sCL_f (p := pSe I) (decide_eq_false (fun z => z h32)), sCL_f (p := pSe I) (decide_eq_false (fun z => z h32))] at h9
      exact h9 _ _ _
    · refine v_lld2 dX8_right_35 ?_
      refine v_ald7 dX8_right_36 ?_
      refine v_getI dX8_right_38 fl_X8_244 (by first | rfl | exact lay_door (by omega) | exact lay_dt (by omega) | exact lay_da (by omega) | exact lay_sh (by omega) | exact lay_se (by omega)) rfl (by omega) ?_
      refine v_i2l dX8_right_41 ?_
      refine v_ladd dX8_right_42 ?_
      refine v_lst2 dX8_right_43 rfl ?_
      refine v_lld4 dX8_right_44 ?_
      refine v_ald7 dX8_right_46 ?_
      refine v_getI dX8_right_48 fl_X8_244 (by first | rfl | exact lay_door (by omega) | exact lay_dt (by omega) | exact lay_da (by omega) | exact lay_sh (by omega) | exact lay_se (by omega)) rfl (by omega) ?_
      refine v_ald7 dX8_right_51 ?_
      refine v_V0 (c_X1_counted (by omega) hc9) lk_X8_247 dX8_right_53 (by decide) (Nat.le_of_ble_eq_true rfl) (by first | rfl | exact lay_door (by omega) | exact lay_dt (by omega) | exact lay_da (by omega) | exact lay_sh (by omega) | exact lay_se (by omega)) (show _ < 78 + 3 * _ by omega) ?_
      refine v_mmin dX8_right_56 lj_X8_250 (by decide) (Nat.le_of_ble_eq_true rfl) ?_
      refine v_i2l dX8_right_59 ?_
      refine v_ladd dX8_right_60 ?_
      refine v_lst4 dX8_right_61 rfl ?_
      refine v_inc6 dX8_right_63 rfl ?_
      refine v_goto (tgt := 8) dX8_right_66 (by decide) ?_
      rw [nI_1 i]
      have h9 := ih (i + 1) (by omega)
      rw [sCL_t (p := pSe I) (decide_eq_true h32), sCL_t (p := pSe I) (decide_eq_true h32)] at h9
      exact h9 _ _ _

set_option maxRecDepth 4000 in
theorem c_X8_right {G : GG} {dc : Nat} {I : Nat → Nat → Int32} {L : Nat → Nat → Int64} {w : Int32} (hW : Wx dc I) : Cn G yX8_right cX8_right 10 (some .long) 3 0 0 [.ref 0, .int w] (Mm dc I L) (Is (some (.long (rgt (sCL (pSe I) (fSe I) dc) (sCL (pSe I) (fBo I) dc) (sI (fCnt I) dc) w))) (Mm dc I L)) := by
  refine Cn.of' (by decide) (Nat.le_of_ble_eq_true rfl) rfl ?_
  refine v_lcN0 dX8_right_0 ?_
  refine v_lst2 dX8_right_1 rfl ?_
  refine v_lcN0 dX8_right_2 ?_
  refine v_lst4 dX8_right_3 rfl ?_
  refine v_icN (n := 0) dX8_right_5 (by decide) ?_
  refine v_ist6 dX8_right_6 rfl ?_
  exact lp_rt hW dc 0 (by omega) _ _ _
