/-- sums of ints, and of those that are such -/
def sI (f : Nat → Int32) : Nat → Int32
  | 0 => nI 0
  | n + 1 => sI f n + f n
def sC (p : Nat → Bool) (f : Nat → Int32) : Nat → Int32
  | 0 => nI 0
  | n + 1 => if p n then sC p f n + f n else sC p f n
theorem sC_t {p : Nat → Bool} {f : Nat → Int32} {n : Nat} (h : p n = true) : sC p f (n + 1) = sC p f n + f n := by simp only [sC, h, if_true]
theorem sC_f {p : Nat → Bool} {f : Nat → Int32} {n : Nat} (h : p n = false) : sC p f (n + 1) = sC p f n := by simp [sC, h]
theorem sI_cong {f g : Nat → Int32} : ∀ {n : Nat}, (∀ k, k < n → f k = g k) → sI f n = sI g n
  | 0, _ => rfl
  | n + 1, h => by simp only [sI, h n (by omega), sI_cong (n := n) (fun k hk => h k (by omega))]
theorem sC_cong {p q : Nat → Bool} {f g : Nat → Int32} : ∀ {n : Nat}, (∀ k, k < n → p k = q k ∧ (p k = true → f k = g k)) → sC p f n = sC q g n
  | 0, _ => rfl
  | n + 1, h => by
    have h1 := sC_cong (n := n) (fun k hk => h k (by omega))
    obtain ⟨h2, h3⟩ := h n (by omega)
    cases hp : p n with
    | false => rw [sC_f hp, sC_f (by rw [← h2]; exact hp), h1]
    | true => rw [sC_t hp, sC_t (by rw [← h2]; exact hp), h1, h3 hp]
/-- the heads of a door's return -/
abbrev hdn (I : Nat → Nat → Int32) (d : Nat) : Nat := tn (I (78 + 3 * d) 8)

def pOf (I : Nat → Nat → Int32) (v : Int32) (d : Nat) : Bool := decide (I (78 + 3 * d) 0 = v)

set_option maxRecDepth 4000 in
theorem lp_pOf {G : GG} {dc : Nat} {I : Nat → Nat → Int32} {L : Nat → Nat → Int64} {v : Int32} (hW : Wx dc I) (k : Nat) : ∀ i, i + k = dc → V G yX8_doorsOf cX8_doorsOf 4 (some .int) 0 0 0 4 [.ref 0, .int v, .int (nI (ct (pOf I v) i)), .int (nI i)] [] (Mm dc I L) (Is (some (.int (nI (ct (pOf I v) dc)))) (Mm dc I L)) := by
  induction k with
  | zero =>
    intro i hi
    have hc9 := hW.1
    have h24 : i ≤ dc := by omega
    refine v_ild3 dX8_doorsOf_4 ?_
    refine v_ald0 dX8_doorsOf_5 ?_
    refine v_getI dX8_doorsOf_6 fl_X8_69 (by first | rfl | exact lay_door (by omega) | exact lay_dt (by omega) | exact lay_da (by omega) | exact lay_sh (by omega) | exact lay_se (by omega)) rfl (by omega) ?_
    refine v_icmp_ge (tgt := 34) dX8_doorsOf_9 (by decide) (fun h9 => ?_) (fun h9 => absurd (by rw [hW.2.1]; exact nI_le (by omega) (by omega)) h9)
    refine v_ild2 dX8_doorsOf_34 ?_
    exact v_retI dX8_doorsOf_35 trivial (by rw [show i = dc by omega]; exact ⟨rfl, rfl⟩)
  | succ k ih =>
    intro i hi
    have hc9 := hW.1
    have h24 : i ≤ dc := by omega
    refine v_ild3 dX8_doorsOf_4 ?_
    refine v_ald0 dX8_doorsOf_5 ?_
    refine v_getI dX8_doorsOf_6 fl_X8_69 (by first | rfl | exact lay_door (by omega) | exact lay_dt (by omega) | exact lay_da (by omega) | exact lay_sh (by omega) | exact lay_se (by omega)) rfl (by omega) ?_
    refine v_icmp_ge (tgt := 34) dX8_doorsOf_9 (by decide) (fun h9 => absurd h9 (by rw [hW.2.1]; exact nI_ge (by omega) (by omega))) (fun h9 => ?_)
    refine v_ald0 dX8_doorsOf_12 ?_
    refine v_getP (q := 2) dX8_doorsOf_13 fl_X8_17 (by first | rfl | exact lay_door (by omega) | exact lay_dt (by omega) | exact lay_da (by omega) | exact lay_sh (by omega) | exact lay_se (by omega)) rfl (by omega) rfl ?_
    refine v_ild3 dX8_doorsOf_16 ?_
    refine v_aald13 dX8_doorsOf_17 (by first | rfl | exact lay_door (by omega) | exact lay_dt (by omega) | exact lay_da (by omega) | exact lay_sh (by omega) | exact lay_se (by omega)) (by omega) ⟨rfl, by omega, by decide⟩ (Pc_d (by omega)) ?_
    refine v_getI dX8_doorsOf_18 fl_X8_143 (by first | rfl | exact lay_door (by omega) | exact lay_dt (by omega) | exact lay_da (by omega) | exact lay_sh (by omega) | exact lay_se (by omega)) rfl (by omega) ?_
    refine v_ild1 dX8_doorsOf_21 ?_
    refine v_icmp_ne (tgt := 28) dX8_doorsOf_22 (by decide) (fun h22 => ?_) (fun h22 => ?_)
    · refine v_inc3 dX8_doorsOf_28 rfl ?_
      refine v_goto (tgt := 4) dX8_doorsOf_31 (by decide) ?_
      rw [nI_1 i]
      first | (rw [nct_t (p := pOf I v) (decide_eq_true h22)]; exact ih (i + 1) (by omega)) | (rw [nct_f (p := pOf I v) (decide_eq_false h22)]; exact ih (i + 1) (by omega))
    · refine v_inc2 dX8_doorsOf_25 rfl ?_
      refine v_inc3 dX8_doorsOf_28 rfl ?_
      refine v_goto (tgt := 4) dX8_doorsOf_31 (by decide) ?_
      rw [nI_1 i]
      first | (rw [nct_t (p := pOf I v) (decide_eq_true h22)]; exact ih (i + 1) (by omega)) | (rw [nct_f (p := pOf I v) (decide_eq_false h22)]; exact ih (i + 1) (by omega))

set_option maxRecDepth 4000 in
theorem c_X8_doorsOf {G : GG} {dc : Nat} {I : Nat → Nat → Int32} {L : Nat → Nat → Int64} {v : Int32} (hW : Wx dc I) : Cn G yX8_doorsOf cX8_doorsOf 4 (some .int) 0 0 0 [.ref 0, .int v] (Mm dc I L) (Is (some (.int (nI (ct (pOf I v) dc)))) (Mm dc I L)) := by
  refine Cn.of' (by decide) (Nat.le_of_ble_eq_true rfl) rfl ?_
  refine v_icN (n := 0) dX8_doorsOf_0 (by decide) ?_
  refine v_ist2 dX8_doorsOf_1 rfl ?_
  refine v_icN (n := 0) dX8_doorsOf_2 (by decide) ?_
  refine v_ist3 dX8_doorsOf_3 rfl ?_
  exact lp_pOf hW dc 0 (by omega)

def pWith (I : Nat → Nat → Int32) (v : Int32) (d : Nat) : Bool := decide (I (78 + 3 * d) 6 = v)

set_option maxRecDepth 4000 in
theorem lp_pWith {G : GG} {dc : Nat} {I : Nat → Nat → Int32} {L : Nat → Nat → Int64} {v : Int32} (hW : Wx dc I) (k : Nat) : ∀ i, i + k = dc → V G yX8_doorsWith cX8_doorsWith 4 (some .int) 0 0 0 4 [.ref 0, .int v, .int (nI (ct (pWith I v) i)), .int (nI i)] [] (Mm dc I L) (Is (some (.int (nI (ct (pWith I v) dc)))) (Mm dc I L)) := by
  induction k with
  | zero =>
    intro i hi
    have hc9 := hW.1
    have h24 : i ≤ dc := by omega
    refine v_ild3 dX8_doorsWith_4 ?_
    refine v_ald0 dX8_doorsWith_5 ?_
    refine v_getI dX8_doorsWith_6 fl_X8_69 (by first | rfl | exact lay_door (by omega) | exact lay_dt (by omega) | exact lay_da (by omega) | exact lay_sh (by omega) | exact lay_se (by omega)) rfl (by omega) ?_
    refine v_icmp_ge (tgt := 34) dX8_doorsWith_9 (by decide) (fun h9 => ?_) (fun h9 => absurd (by rw [hW.2.1]; exact nI_le (by omega) (by omega)) h9)
    refine v_ild2 dX8_doorsWith_34 ?_
    exact v_retI dX8_doorsWith_35 trivial (by rw [show i = dc by omega]; exact ⟨rfl, rfl⟩)
  | succ k ih =>
    intro i hi
    have hc9 := hW.1
    have h24 : i ≤ dc := by omega
    refine v_ild3 dX8_doorsWith_4 ?_
    refine v_ald0 dX8_doorsWith_5 ?_
    refine v_getI dX8_doorsWith_6 fl_X8_69 (by first | rfl | exact lay_door (by omega) | exact lay_dt (by omega) | exact lay_da (by omega) | exact lay_sh (by omega) | exact lay_se (by omega)) rfl (by omega) ?_
    refine v_icmp_ge (tgt := 34) dX8_doorsWith_9 (by decide) (fun h9 => absurd h9 (by rw [hW.2.1]; exact nI_ge (by omega) (by omega))) (fun h9 => ?_)
    refine v_ald0 dX8_doorsWith_12 ?_
    refine v_getP (q := 2) dX8_doorsWith_13 fl_X8_17 (by first | rfl | exact lay_door (by omega) | exact lay_dt (by omega) | exact lay_da (by omega) | exact lay_sh (by omega) | exact lay_se (by omega)) rfl (by omega) rfl ?_
    refine v_ild3 dX8_doorsWith_16 ?_
    refine v_aald13 dX8_doorsWith_17 (by first | rfl | exact lay_door (by omega) | exact lay_dt (by omega) | exact lay_da (by omega) | exact lay_sh (by omega) | exact lay_se (by omega)) (by omega) ⟨rfl, by omega, by decide⟩ (Pc_d (by omega)) ?_
    refine v_getI dX8_doorsWith_18 fl_X8_185 (by first | rfl | exact lay_door (by omega) | exact lay_dt (by omega) | exact lay_da (by omega) | exact lay_sh (by omega) | exact lay_se (by omega)) rfl (by omega) ?_
    refine v_ild1 dX8_doorsWith_21 ?_
    refine v_icmp_ne (tgt := 28) dX8_doorsWith_22 (by decide) (fun h22 => ?_) (fun h22 => ?_)
    · refine v_inc3 dX8_doorsWith_28 rfl ?_
      refine v_goto (tgt := 4) dX8_doorsWith_31 (by decide) ?_
      rw [nI_1 i]
      first | (rw [nct_t (p := pWith I v) (decide_eq_true h22)]; exact ih (i + 1) (by omega)) | (rw [nct_f (p := pWith I v) (decide_eq_false h22)]; exact ih (i + 1) (by omega))
    · refine v_inc2 dX8_doorsWith_25 rfl ?_
      refine v_inc3 dX8_doorsWith_28 rfl ?_
      refine v_goto (tgt := 4) dX8_doorsWith_31 (by decide) ?_
      rw [nI_1 i]
      first | (rw [nct_t (p := pWith I v) (decide_eq_true h22)]; exact ih (i + 1) (by omega)) | (rw [nct_f (p := pWith I v) (decide_eq_false h22)]; exact ih (i + 1) (by omega))

set_option maxRecDepth 4000 in
theorem c_X8_doorsWith {G : GG} {dc : Nat} {I : Nat → Nat → Int32} {L : Nat → Nat → Int64} {v : Int32} (hW : Wx dc I) : Cn G yX8_doorsWith cX8_doorsWith 4 (some .int) 0 0 0 [.ref 0, .int v] (Mm dc I L) (Is (some (.int (nI (ct (pWith I v) dc)))) (Mm dc I L)) := by
  refine Cn.of' (by decide) (Nat.le_of_ble_eq_true rfl) rfl ?_
  refine v_icN (n := 0) dX8_doorsWith_0 (by decide) ?_
  refine v_ist2 dX8_doorsWith_1 rfl ?_
  refine v_icN (n := 0) dX8_doorsWith_2 (by decide) ?_
  refine v_ist3 dX8_doorsWith_3 rfl ?_
  exact lp_pWith hW dc 0 (by omega)

def pAsk (I : Nat → Nat → Int32) (d : Nat) : Bool := decide (tba I d)

set_option maxRecDepth 4000 in
theorem lp_dta {G : GG} {dc : Nat} {I : Nat → Nat → Int32} {L : Nat → Nat → Int64} (hW : Wx dc I) (k : Nat) : ∀ i, i + k = dc → V G yX8_doorsToBeAsked cX8_doorsToBeAsked 3 (some .int) 1 0 0 4 [.ref 0, .int (nI (ct (pAsk I) i)), .int (nI i)] [] (Mm dc I L) (Is (some (.int (nI (ct (pAsk I) dc)))) (Mm dc I L)) := by
  induction k with
  | zero =>
    intro i hi
    have hc9 := hW.1
    have h24 : i ≤ dc := by omega
    refine v_ild2 dX8_doorsToBeAsked_4 ?_
    refine v_ald0 dX8_doorsToBeAsked_5 ?_
    refine v_getI dX8_doorsToBeAsked_6 fl_X8_69 (by first | rfl | exact lay_door (by omega) | exact lay_dt (by omega) | exact lay_da (by omega) | exact lay_sh (by omega) | exact lay_se (by omega)) rfl (by omega) ?_
    refine v_icmp_ge (tgt := 33) dX8_doorsToBeAsked_9 (by decide) (fun h9 => ?_) (fun h9 => absurd (by rw [hW.2.1]; exact nI_le (by omega) (by omega)) h9)
    refine v_ild1 dX8_doorsToBeAsked_33 ?_
    exact v_retI dX8_doorsToBeAsked_34 trivial (by rw [show i = dc by omega]; exact ⟨rfl, rfl⟩)
  | succ k ih =>
    intro i hi
    have hc9 := hW.1
    have h24 : i ≤ dc := by omega
    refine v_ild2 dX8_doorsToBeAsked_4 ?_
    refine v_ald0 dX8_doorsToBeAsked_5 ?_
    refine v_getI dX8_doorsToBeAsked_6 fl_X8_69 (by first | rfl | exact lay_door (by omega) | exact lay_dt (by omega) | exact lay_da (by omega) | exact lay_sh (by omega) | exact lay_se (by omega)) rfl (by omega) ?_
    refine v_icmp_ge (tgt := 33) dX8_doorsToBeAsked_9 (by decide) (fun h9 => absurd h9 (by rw [hW.2.1]; exact nI_ge (by omega) (by omega))) (fun h9 => ?_)
    refine v_ald0 dX8_doorsToBeAsked_12 ?_
    refine v_getP (q := 2) dX8_doorsToBeAsked_13 fl_X8_17 (by first | rfl | exact lay_door (by omega) | exact lay_dt (by omega) | exact lay_da (by omega) | exact lay_sh (by omega) | exact lay_se (by omega)) rfl (by omega) rfl ?_
    refine v_ild2 dX8_doorsToBeAsked_16 ?_
    refine v_aald13 dX8_doorsToBeAsked_17 (by first | rfl | exact lay_door (by omega) | exact lay_dt (by omega) | exact lay_da (by omega) | exact lay_sh (by omega) | exact lay_se (by omega)) (by omega) ⟨rfl, by omega, by decide⟩ (Pc_d (by omega)) ?_
    refine v_V0 (c_X1_isToBeAsked (by omega) hc9) lk_X8_160 dX8_doorsToBeAsked_18 (by decide) (Nat.le_of_ble_eq_true rfl) (by first | rfl | exact lay_door (by omega) | exact lay_dt (by omega) | exact lay_da (by omega) | exact lay_sh (by omega) | exact lay_se (by omega)) (show _ < 78 + 3 * _ by omega) ?_
    refine v_ifeq_b (tgt := 27) dX8_doorsToBeAsked_21 (by decide) (fun h21 => ?_) (fun h21 => ?_)
    · refine v_inc2 dX8_doorsToBeAsked_27 rfl ?_
      refine v_goto (tgt := 4) dX8_doorsToBeAsked_30 (by decide) ?_
      rw [nI_1 i]
      first | (rw [nct_t (p := pAsk I) (decide_eq_true h21)]; exact ih (i + 1) (by omega)) | (rw [nct_f (p := pAsk I) (decide_eq_false h21)]; exact ih (i + 1) (by omega))
    · refine v_inc1 dX8_doorsToBeAsked_24 rfl ?_
      refine v_inc2 dX8_doorsToBeAsked_27 rfl ?_
      refine v_goto (tgt := 4) dX8_doorsToBeAsked_30 (by decide) ?_
      rw [nI_1 i]
      first | (rw [nct_t (p := pAsk I) (decide_eq_true h21)]; exact ih (i + 1) (by omega)) | (rw [nct_f (p := pAsk I) (decide_eq_false h21)]; exact ih (i + 1) (by omega))

set_option maxRecDepth 4000 in
theorem c_X8_doorsToBeAsked {G : GG} {dc : Nat} {I : Nat → Nat → Int32} {L : Nat → Nat → Int64} (hW : Wx dc I) : Cn G yX8_doorsToBeAsked cX8_doorsToBeAsked 3 (some .int) 1 0 0 [.ref 0] (Mm dc I L) (Is (some (.int (nI (ct (pAsk I) dc)))) (Mm dc I L)) := by
  refine Cn.of' (by decide) (Nat.le_of_ble_eq_true rfl) rfl ?_
  refine v_icN (n := 0) dX8_doorsToBeAsked_0 (by decide) ?_
  refine v_ist1 dX8_doorsToBeAsked_1 rfl ?_
  refine v_icN (n := 0) dX8_doorsToBeAsked_2 (by decide) ?_
  refine v_ist2 dX8_doorsToBeAsked_3 rfl ?_
  exact lp_dta hW dc 0 (by omega)

def fCnt (I : Nat → Nat → Int32) (d : Nat) : Int32 := I (78 + 3 * d) 8 - bc32 (I (78 + 3 * d) 9)
def fStr (I : Nat → Nat → Int32) (d : Nat) : Int32 := bc32 (I (78 + 3 * d) 9)

set_option maxRecDepth 4000 in
theorem lp_ch {G : GG} {dc : Nat} {I : Nat → Nat → Int32} {L : Nat → Nat → Int64} (hW : Wx dc I) (k : Nat) : ∀ i, i + k = dc → V G yX8_countedHeads cX8_countedHeads 3 (some .int) 2 0 0 4 [.ref 0, .int (sI (fCnt I) i), .int (nI i)] [] (Mm dc I L) (Is (some (.int (sI (fCnt I) dc))) (Mm dc I L)) := by
  induction k with
  | zero =>
    intro i hi
    have hc9 := hW.1
    have h24 : i ≤ dc := by omega
    refine v_ild2 dX8_countedHeads_4 ?_
    refine v_ald0 dX8_countedHeads_5 ?_
    refine v_getI dX8_countedHeads_6 fl_X8_69 (by first | rfl | exact lay_door (by omega) | exact lay_dt (by omega) | exact lay_da (by omega) | exact lay_sh (by omega) | exact lay_se (by omega)) rfl (by omega) ?_
    refine v_icmp_ge (tgt := 30) dX8_countedHeads_9 (by decide) (fun h9 => ?_) (fun h9 => absurd (by rw [hW.2.1]; exact nI_le (by omega) (by omega)) h9)
    refine v_ild1 dX8_countedHeads_30 ?_
    exact v_retI dX8_countedHeads_31 trivial (by rw [show i = dc by omega]; exact ⟨rfl, rfl⟩)
  | succ k ih =>
    intro i hi
    have hc9 := hW.1
    have h24 : i ≤ dc := by omega
    refine v_ild2 dX8_countedHeads_4 ?_
    refine v_ald0 dX8_countedHeads_5 ?_
    refine v_getI dX8_countedHeads_6 fl_X8_69 (by first | rfl | exact lay_door (by omega) | exact lay_dt (by omega) | exact lay_da (by omega) | exact lay_sh (by omega) | exact lay_se (by omega)) rfl (by omega) ?_
    refine v_icmp_ge (tgt := 30) dX8_countedHeads_9 (by decide) (fun h9 => absurd h9 (by rw [hW.2.1]; exact nI_ge (by omega) (by omega))) (fun h9 => ?_)
    refine v_ild1 dX8_countedHeads_12 ?_
    refine v_ald0 dX8_countedHeads_13 ?_
    refine v_getP (q := 2) dX8_countedHeads_14 fl_X8_17 (by first | rfl | exact lay_door (by omega) | exact lay_dt (by omega) | exact lay_da (by omega) | exact lay_sh (by omega) | exact lay_se (by omega)) rfl (by omega) rfl ?_
    refine v_ild2 dX8_countedHeads_17 ?_
    refine v_aald13 dX8_countedHeads_18 (by first | rfl | exact lay_door (by omega) | exact lay_dt (by omega) | exact lay_da (by omega) | exact lay_sh (by omega) | exact lay_se (by omega)) (by omega) ⟨rfl, by omega, by decide⟩ (Pc_d (by omega)) ?_
    refine v_V0 (c_X1_counted (by omega) hc9) lk_X8_247 dX8_countedHeads_19 (by decide) (Nat.le_of_ble_eq_true rfl) (by first | rfl | exact lay_door (by omega) | exact lay_dt (by omega) | exact lay_da (by omega) | exact lay_sh (by omega) | exact lay_se (by omega)) (show _ < 78 + 3 * _ by omega) ?_
    refine v_iadd dX8_countedHeads_22 ?_
    refine v_ist1 dX8_countedHeads_23 rfl ?_
    refine v_inc2 dX8_countedHeads_24 rfl ?_
    refine v_goto (tgt := 4) dX8_countedHeads_27 (by decide) ?_
    rw [nI_1 i]
    exact ih (i + 1) (by omega)

set_option maxRecDepth 4000 in
theorem c_X8_countedHeads {G : GG} {dc : Nat} {I : Nat → Nat → Int32} {L : Nat → Nat → Int64} (hW : Wx dc I) : Cn G yX8_countedHeads cX8_countedHeads 3 (some .int) 2 0 0 [.ref 0] (Mm dc I L) (Is (some (.int (sI (fCnt I) dc))) (Mm dc I L)) := by
  refine Cn.of' (by decide) (Nat.le_of_ble_eq_true rfl) rfl ?_
  refine v_icN (n := 0) dX8_countedHeads_0 (by decide) ?_
  refine v_ist1 dX8_countedHeads_1 rfl ?_
  refine v_icN (n := 0) dX8_countedHeads_2 (by decide) ?_
  refine v_ist2 dX8_countedHeads_3 rfl ?_
  exact lp_ch hW dc 0 (by omega)

set_option maxRecDepth 4000 in
theorem lp_st {G : GG} {dc : Nat} {I : Nat → Nat → Int32} {L : Nat → Nat → Int64} (hW : Wx dc I) (k : Nat) : ∀ i, i + k = dc → V G yX8_struckHeads cX8_struckHeads 3 (some .int) 1 0 0 4 [.ref 0, .int (sI (fStr I) i), .int (nI i)] [] (Mm dc I L) (Is (some (.int (sI (fStr I) dc))) (Mm dc I L)) := by
  induction k with
  | zero =>
    intro i hi
    have hc9 := hW.1
    have h24 : i ≤ dc := by omega
    refine v_ild2 dX8_struckHeads_4 ?_
    refine v_ald0 dX8_struckHeads_5 ?_
    refine v_getI dX8_struckHeads_6 fl_X8_69 (by first | rfl | exact lay_door (by omega) | exact lay_dt (by omega) | exact lay_da (by omega) | exact lay_sh (by omega) | exact lay_se (by omega)) rfl (by omega) ?_
    refine v_icmp_ge (tgt := 33) dX8_struckHeads_9 (by decide) (fun h9 => ?_) (fun h9 => absurd (by rw [hW.2.1]; exact nI_le (by omega) (by omega)) h9)
    refine v_ild1 dX8_struckHeads_33 ?_
    exact v_retI dX8_struckHeads_34 trivial (by rw [show i = dc by omega]; exact ⟨rfl, rfl⟩)
  | succ k ih =>
    intro i hi
    have hc9 := hW.1
    have h24 : i ≤ dc := by omega
    refine v_ild2 dX8_struckHeads_4 ?_
    refine v_ald0 dX8_struckHeads_5 ?_
    refine v_getI dX8_struckHeads_6 fl_X8_69 (by first | rfl | exact lay_door (by omega) | exact lay_dt (by omega) | exact lay_da (by omega) | exact lay_sh (by omega) | exact lay_se (by omega)) rfl (by omega) ?_
    refine v_icmp_ge (tgt := 33) dX8_struckHeads_9 (by decide) (fun h9 => absurd h9 (by rw [hW.2.1]; exact nI_ge (by omega) (by omega))) (fun h9 => ?_)
    refine v_ild1 dX8_struckHeads_12 ?_
    refine v_ald0 dX8_struckHeads_13 ?_
    refine v_getP (q := 2) dX8_struckHeads_14 fl_X8_17 (by first | rfl | exact lay_door (by omega) | exact lay_dt (by omega) | exact lay_da (by omega) | exact lay_sh (by omega) | exact lay_se (by omega)) rfl (by omega) rfl ?_
    refine v_ild2 dX8_struckHeads_17 ?_
    refine v_aald13 dX8_struckHeads_18 (by first | rfl | exact lay_door (by omega) | exact lay_dt (by omega) | exact lay_da (by omega) | exact lay_sh (by omega) | exact lay_se (by omega)) (by omega) ⟨rfl, by omega, by decide⟩ (Pc_d (by omega)) ?_
    refine v_getI dX8_struckHeads_19 fl_X8_320 (by first | rfl | exact lay_door (by omega) | exact lay_dt (by omega) | exact lay_da (by omega) | exact lay_sh (by omega) | exact lay_se (by omega)) rfl (by omega) ?_
    refine v_S1 c_J6_bitCount_0f7a4 lk_X8_305 dX8_struckHeads_22 (by decide) (Nat.le_of_ble_eq_true rfl) ?_
    refine v_iadd dX8_struckHeads_25 ?_
    refine v_ist1 dX8_struckHeads_26 rfl ?_
    refine v_inc2 dX8_struckHeads_27 rfl ?_
    refine v_goto (tgt := 4) dX8_struckHeads_30 (by decide) ?_
    rw [nI_1 i]
    exact ih (i + 1) (by omega)

set_option maxRecDepth 4000 in
theorem c_X8_struckHeads {G : GG} {dc : Nat} {I : Nat → Nat → Int32} {L : Nat → Nat → Int64} (hW : Wx dc I) : Cn G yX8_struckHeads cX8_struckHeads 3 (some .int) 1 0 0 [.ref 0] (Mm dc I L) (Is (some (.int (sI (fStr I) dc))) (Mm dc I L)) := by
  refine Cn.of' (by decide) (Nat.le_of_ble_eq_true rfl) rfl ?_
  refine v_icN (n := 0) dX8_struckHeads_0 (by decide) ?_
  refine v_ist1 dX8_struckHeads_1 rfl ?_
  refine v_icN (n := 0) dX8_struckHeads_2 (by decide) ?_
  refine v_ist2 dX8_struckHeads_3 rfl ?_
  exact lp_st hW dc 0 (by omega)

def pCo (I : Nat → Nat → Int32) (b w : Int32) (d : Nat) : Bool := decide (I (78 + 3 * d) 0 = b ∧ (¬ w = 0 ∨ ¬ I (78 + 3 * d) 6 = nI 4))
def fBd (I : Nat → Nat → Int32) (v : Int32) (d : Nat) : Int32 := nI (ct (pB I d v) (hdn I d))

set_option maxRecDepth 4000 in
theorem lp_cnt {G : GG} {dc : Nat} {I : Nat → Nat → Int32} {L : Nat → Nat → Int64} {b v w : Int32} (hW : Wx dc I) (k : Nat) : ∀ i, i + k = dc → ∀ u : Value, V G yX8_count cX8_count 7 (some .int) 2 0 0 24 [.ref 0, .int b, .int v, .int w, .int (sC (pCo I b w) (fBd I v) i), .int (nI i), u] [] (Mm dc I L) (Is (some (.int (sC (pCo I b w) (fBd I v) dc))) (Mm dc I L)) := by
  induction k with
  | zero =>
    intro i hi u
    have hc9 := hW.1
    have h24 : i ≤ dc := by omega
    refine v_ild5 dX8_count_24 ?_
    refine v_ald0 dX8_count_26 ?_
    refine v_getI dX8_count_27 fl_X8_69 (by first | rfl | exact lay_door (by omega) | exact lay_dt (by omega) | exact lay_da (by omega) | exact lay_sh (by omega) | exact lay_se (by omega)) rfl (by omega) ?_
    refine v_icmp_ge (tgt := 81) dX8_count_30 (by decide) (fun h30 => ?_) (fun h30 => absurd (by rw [hW.2.1]; exact nI_le (by omega) (by omega)) h30)
    refine v_ild4 dX8_count_81 ?_
    exact v_retI dX8_count_83 trivial (by rw [show i = dc by omega]; exact ⟨rfl, rfl⟩)
  | succ k ih =>
    intro i hi u
    have hc9 := hW.1
    have h24 : i ≤ dc := by omega
    refine v_ild5 dX8_count_24 ?_
    refine v_ald0 dX8_count_26 ?_
    refine v_getI dX8_count_27 fl_X8_69 (by first | rfl | exact lay_door (by omega) | exact lay_dt (by omega) | exact lay_da (by omega) | exact lay_sh (by omega) | exact lay_se (by omega)) rfl (by omega) ?_
    refine v_icmp_ge (tgt := 81) dX8_count_30 (by decide) (fun h30 => absurd h30 (by rw [hW.2.1]; exact nI_ge (by omega) (by omega))) (fun h30 => ?_)
    refine v_ald0 dX8_count_33 ?_
    refine v_getP (q := 2) dX8_count_34 fl_X8_17 (by first | rfl | exact lay_door (by omega) | exact lay_dt (by omega) | exact lay_da (by omega) | exact lay_sh (by omega) | exact lay_se (by omega)) rfl (by omega) rfl ?_
    refine v_ild5 dX8_count_37 ?_
    refine v_aald13 dX8_count_39 (by first | rfl | exact lay_door (by omega) | exact lay_dt (by omega) | exact lay_da (by omega) | exact lay_sh (by omega) | exact lay_se (by omega)) (by omega) ⟨rfl, by omega, by decide⟩ (Pc_d (by omega)) ?_
    refine v_ast6 dX8_count_40 rfl ?_
    refine v_ald6 dX8_count_42 ?_
    refine v_getI dX8_count_44 fl_X8_143 (by first | rfl | exact lay_door (by omega) | exact lay_dt (by omega) | exact lay_da (by omega) | exact lay_sh (by omega) | exact lay_se (by omega)) rfl (by omega) ?_
    refine v_ild1 dX8_count_47 ?_
    refine v_icmp_ne (tgt := 75) dX8_count_48 (by decide) (fun h48 => ?_) (fun h48 => ?_)
    · refine v_inc5 dX8_count_75 rfl ?_
      refine v_goto (tgt := 24) dX8_count_78 (by decide) ?_
      rw [nI_1 i]
      have e9 : (sC (pCo I b w) (fBd I v) i) = (sC (pCo I b w) (fBd I v) (i + 1)) := (sC_f (decide_eq_false (fun q => h48 q.1))).symm
      rw [e9]
      exact ih (i + 1) (by omega) _
    · refine v_ild3 dX8_count_51 ?_
      refine v_if_ne (tgt := 64) dX8_count_52 (by decide) (fun h52 => ?_) (fun h52 => ?_)
      · refine v_ild4 dX8_count_64 ?_
        refine v_ald6 dX8_count_66 ?_
        refine v_ild2 dX8_count_68 ?_
        refine v_V1 (c_X1_countedInBand (by omega) hc9 (hW.2.2.2 i (by omega)).2.2.2.1 (hW.2.2.2 i (by omega)).2.2.2.2) lk_X8_215 dX8_count_69 (by decide) (Nat.le_of_ble_eq_true rfl) (by first | rfl | exact lay_door (by omega) | exact lay_dt (by omega) | exact lay_da (by omega) | exact lay_sh (by omega) | exact lay_se (by omega)) (show _ < 78 + 3 * _ by omega) ?_
        refine v_iadd dX8_count_72 ?_
        refine v_ist4 dX8_count_73 rfl ?_
        refine v_inc5 dX8_count_75 rfl ?_
        refine v_goto (tgt := 24) dX8_count_78 (by decide) ?_
        rw [nI_1 i]
        have e9 : (sC (pCo I b w) (fBd I v) i) + nI (ct (pB I i v) (tn (I (78 + 3 * i) 8))) = (sC (pCo I b w) (fBd I v) (i + 1)) := (sC_t (decide_eq_true ⟨h48, Or.inl h52⟩)).symm
        rw [e9]
        exact ih (i + 1) (by omega) _
      · refine v_ald6 dX8_count_55 ?_
        refine v_getI dX8_count_57 fl_X8_185 (by first | rfl | exact lay_door (by omega) | exact lay_dt (by omega) | exact lay_da (by omega) | exact lay_sh (by omega) | exact lay_se (by omega)) rfl (by omega) ?_
        refine v_icN (n := 4) dX8_count_60 (by decide) ?_
        refine v_icmp_eq (tgt := 75) dX8_count_61 (by decide) (fun h61 => ?_) (fun h61 => ?_)
        · refine v_inc5 dX8_count_75 rfl ?_
          refine v_goto (tgt := 24) dX8_count_78 (by decide) ?_
          rw [nI_1 i]
          have e9 : (sC (pCo I b w) (fBd I v) i) = (sC (pCo I b w) (fBd I v) (i + 1)) := (sC_f (decide_eq_false (fun q => q.2.elim (fun z => z h52) (fun z => z h61)))).symm
          rw [e9]
          exact ih (i + 1) (by omega) _
        · refine v_ild4 dX8_count_64 ?_
          refine v_ald6 dX8_count_66 ?_
          refine v_ild2 dX8_count_68 ?_
          refine v_V1 (c_X1_countedInBand (by omega) hc9 (hW.2.2.2 i (by omega)).2.2.2.1 (hW.2.2.2 i (by omega)).2.2.2.2) lk_X8_215 dX8_count_69 (by decide) (Nat.le_of_ble_eq_true rfl) (by first | rfl | exact lay_door (by omega) | exact lay_dt (by omega) | exact lay_da (by omega) | exact lay_sh (by omega) | exact lay_se (by omega)) (show _ < 78 + 3 * _ by omega) ?_
          refine v_iadd dX8_count_72 ?_
          refine v_ist4 dX8_count_73 rfl ?_
          refine v_inc5 dX8_count_75 rfl ?_
          refine v_goto (tgt := 24) dX8_count_78 (by decide) ?_
          rw [nI_1 i]
          have e9 : (sC (pCo I b w) (fBd I v) i) + nI (ct (pB I i v) (tn (I (78 + 3 * i) 8))) = (sC (pCo I b w) (fBd I v) (i + 1)) := (sC_t (decide_eq_true ⟨h48, Or.inr h61⟩)).symm
          rw [e9]
          exact ih (i + 1) (by omega) _

set_option maxRecDepth 4000 in
theorem c_X8_count {G : GG} {dc : Nat} {I : Nat → Nat → Int32} {L : Nat → Nat → Int64} {b v w : Int32} (hW : Wx dc I) : Cn G yX8_count cX8_count 7 (some .int) 2 0 0 [.ref 0, .int b, .int v, .int w] (Mm dc I L) (Is (some (.int (if inR b 6 then (if v < 0 then -1 else (if v < nI 4 then (sC (pCo I b w) (fBd I v) dc) else -1)) else -1))) (Mm dc I L)) := by
  refine Cn.of' (by decide) (Nat.le_of_ble_eq_true rfl) rfl ?_
  refine v_ild1 dX8_count_0 ?_
  refine v_S1 c_X8_isBlock lk_X8_54 dX8_count_1 (by decide) (Nat.le_of_ble_eq_true rfl) ?_
  refine v_ifeq_b (tgt := 16) dX8_count_4 (by decide) (fun h4 => ?_) (fun h4 => ?_)
  · refine v_icm1 dX8_count_16 ?_
    exact v_retI dX8_count_17 trivial (by simp only [if_neg h4]; exact ⟨rfl, rfl⟩)
  · refine v_ild2 dX8_count_7 ?_
    refine v_if_lt (tgt := 16) dX8_count_8 (by decide) (fun h8 => ?_) (fun h8 => ?_)
    · refine v_icm1 dX8_count_16 ?_
      exact v_retI dX8_count_17 trivial (by simp only [if_pos h4, if_pos h8]; exact ⟨rfl, rfl⟩)
    · refine v_ild2 dX8_count_11 ?_
      refine v_icN (n := 4) dX8_count_12 (by decide) ?_
      refine v_icmp_lt (tgt := 18) dX8_count_13 (by decide) (fun h13 => ?_) (fun h13 => ?_)
      · refine v_icN (n := 0) dX8_count_18 (by decide) ?_
        refine v_ist4 dX8_count_19 rfl ?_
        refine v_icN (n := 0) dX8_count_21 (by decide) ?_
        refine v_ist5 dX8_count_22 rfl ?_
        simp only [if_pos h4, if_neg h8, if_pos h13]
        exact lp_cnt hW dc 0 (by omega) _
      · refine v_icm1 dX8_count_16 ?_
        exact v_retI dX8_count_17 trivial (by simp only [if_pos h4, if_neg h8, if_neg h13]; exact ⟨rfl, rfl⟩)

def fHp (I : Nat → Nat → Int32) (s : Int32) (d : Nat) : Int32 := nI (ct (pH I d s) (hdn I d))

set_option maxRecDepth 4000 in
theorem lp_hp {G : GG} {dc : Nat} {I : Nat → Nat → Int32} {L : Nat → Nat → Int64} (hW : Wx dc I) (k : Nat) : ∀ i, i + k = dc → V G yX8_heap cX8_heap 4 (some .int) 2 0 0 6 [.ref 0, .int (sI (fHp I (nI 1)) i), .int (sI (fHp I (nI 5)) i), .int (nI i)] [] (Mm dc I L) (Is (some (.int (if (sI (fHp I (nI 1)) dc) = 0 then nI 100 else nI 500 * (sI (fHp I (nI 5)) dc) / (sI (fHp I (nI 1)) dc)))) (Mm dc I L)) := by
  induction k with
  | zero =>
    intro i hi
    have hc9 := hW.1
    have h24 : i ≤ dc := by omega
    refine v_ild3 dX8_heap_6 ?_
    refine v_ald0 dX8_heap_7 ?_
    refine v_getI dX8_heap_8 fl_X8_69 (by first | rfl | exact lay_door (by omega) | exact lay_dt (by omega) | exact lay_da (by omega) | exact lay_sh (by omega) | exact lay_se (by omega)) rfl (by omega) ?_
    refine v_icmp_ge (tgt := 46) dX8_heap_11 (by decide) (fun h11 => ?_) (fun h11 => absurd (by rw [hW.2.1]; exact nI_le (by omega) (by omega)) h11)
    refine v_ild1 dX8_heap_46 ?_
    refine v_if_ne (tgt := 55) dX8_heap_47 (by decide) (fun h47 => ?_) (fun h47 => ?_)
    · refine v_sipush (v := nI 500) dX8_heap_55 (by decide) ?_
      refine v_ild2 dX8_heap_58 ?_
      refine v_imul dX8_heap_59 ?_
      refine v_ild1 dX8_heap_60 ?_
      refine v_idiv dX8_heap_61 h47 ?_
      exact v_retI dX8_heap_62 trivial (by obtain rfl : i = dc := (by omega); simp only [if_pos h11, if_neg h47]; exact ⟨rfl, rfl⟩)
    · refine v_bipush (v := nI 100) dX8_heap_50 (by decide) ?_
      refine v_goto (tgt := 62) dX8_heap_52 (by decide) ?_
      exact v_retI dX8_heap_62 trivial (by obtain rfl : i = dc := (by omega); simp only [if_pos h11, if_pos h47]; exact ⟨rfl, rfl⟩)
  | succ k ih =>
    intro i hi
    have hc9 := hW.1
    have h24 : i ≤ dc := by omega
    refine v_ild3 dX8_heap_6 ?_
    refine v_ald0 dX8_heap_7 ?_
    refine v_getI dX8_heap_8 fl_X8_69 (by first | rfl | exact lay_door (by omega) | exact lay_dt (by omega) | exact lay_da (by omega) | exact lay_sh (by omega) | exact lay_se (by omega)) rfl (by omega) ?_
    refine v_icmp_ge (tgt := 46) dX8_heap_11 (by decide) (fun h11 => absurd h11 (by rw [hW.2.1]; exact nI_ge (by omega) (by omega))) (fun h11 => ?_)
    refine v_ild1 dX8_heap_14 ?_
    refine v_ald0 dX8_heap_15 ?_
    refine v_getP (q := 2) dX8_heap_16 fl_X8_17 (by first | rfl | exact lay_door (by omega) | exact lay_dt (by omega) | exact lay_da (by omega) | exact lay_sh (by omega) | exact lay_se (by omega)) rfl (by omega) rfl ?_
    refine v_ild3 dX8_heap_19 ?_
    refine v_aald13 dX8_heap_20 (by first | rfl | exact lay_door (by omega) | exact lay_dt (by omega) | exact lay_da (by omega) | exact lay_sh (by omega) | exact lay_se (by omega)) (by omega) ⟨rfl, by omega, by decide⟩ (Pc_d (by omega)) ?_
    refine v_icN (n := 1) dX8_heap_21 (by decide) ?_
    refine v_V1 (c_X1_countedThatMayHeap (by omega) hc9 (hW.2.2.2 i (by omega)).2.2.2.1 (hW.2.2.2 i (by omega)).2.2.2.2 (by decide)) lk_X8_263 dX8_heap_22 (by decide) (Nat.le_of_ble_eq_true rfl) (by first | rfl | exact lay_door (by omega) | exact lay_dt (by omega) | exact lay_da (by omega) | exact lay_sh (by omega) | exact lay_se (by omega)) (show _ < 78 + 3 * _ by omega) ?_
    refine v_iadd dX8_heap_25 ?_
    refine v_ist1 dX8_heap_26 rfl ?_
    refine v_ild2 dX8_heap_27 ?_
    refine v_ald0 dX8_heap_28 ?_
    refine v_getP (q := 2) dX8_heap_29 fl_X8_17 (by first | rfl | exact lay_door (by omega) | exact lay_dt (by omega) | exact lay_da (by omega) | exact lay_sh (by omega) | exact lay_se (by omega)) rfl (by omega) rfl ?_
    refine v_ild3 dX8_heap_32 ?_
    refine v_aald13 dX8_heap_33 (by first | rfl | exact lay_door (by omega) | exact lay_dt (by omega) | exact lay_da (by omega) | exact lay_sh (by omega) | exact lay_se (by omega)) (by omega) ⟨rfl, by omega, by decide⟩ (Pc_d (by omega)) ?_
    refine v_icN (n := 5) dX8_heap_34 (by decide) ?_
    refine v_V1 (c_X1_countedThatMayHeap (by omega) hc9 (hW.2.2.2 i (by omega)).2.2.2.1 (hW.2.2.2 i (by omega)).2.2.2.2 (by decide)) lk_X8_263 dX8_heap_35 (by decide) (Nat.le_of_ble_eq_true rfl) (by first | rfl | exact lay_door (by omega) | exact lay_dt (by omega) | exact lay_da (by omega) | exact lay_sh (by omega) | exact lay_se (by omega)) (show _ < 78 + 3 * _ by omega) ?_
    refine v_iadd dX8_heap_38 ?_
    refine v_ist2 dX8_heap_39 rfl ?_
    refine v_inc3 dX8_heap_40 rfl ?_
    refine v_goto (tgt := 6) dX8_heap_43 (by decide) ?_
    rw [nI_1 i]
    exact ih (i + 1) (by omega)

set_option maxRecDepth 4000 in
theorem c_X8_heap {G : GG} {dc : Nat} {I : Nat → Nat → Int32} {L : Nat → Nat → Int64} (hW : Wx dc I) : Cn G yX8_heap cX8_heap 4 (some .int) 2 0 0 [.ref 0] (Mm dc I L) (Is (some (.int (if (sI (fHp I (nI 1)) dc) = 0 then nI 100 else nI 500 * (sI (fHp I (nI 5)) dc) / (sI (fHp I (nI 1)) dc)))) (Mm dc I L)) := by
  refine Cn.of' (by decide) (Nat.le_of_ble_eq_true rfl) rfl ?_
  refine v_icN (n := 0) dX8_heap_0 (by decide) ?_
  refine v_ist1 dX8_heap_1 rfl ?_
  refine v_icN (n := 0) dX8_heap_2 (by decide) ?_
  refine v_ist2 dX8_heap_3 rfl ?_
  refine v_icN (n := 0) dX8_heap_4 (by decide) ?_
  refine v_ist3 dX8_heap_5 rfl ?_
  exact lp_hp hW dc 0 (by omega)
