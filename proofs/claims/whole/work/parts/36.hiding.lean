/-! ===== which cells are hidden: sets of cells are bits ===== -/
def clO (x : Int32) : Int32 := ((((x ||| (x >>> (nI 8 &&& 31))) ||| (x >>> (nI 16 &&& 31))) ||| (((x ||| (x >>> (nI 8 &&& 31))) ||| (x >>> (nI 16 &&& 31))) >>> (nI 4 &&& 31))) &&& nI 15) * 1118481
def rwO (x : Int32) : Int32 := (((x ||| (x >>> (nI 1 &&& 31))) ||| ((x ||| (x >>> (nI 1 &&& 31))) >>> (nI 2 &&& 31))) &&& 1118481) * nI 15

set_option maxRecDepth 4000 in
theorem c_X2_columnsOf {G : GG} {μ : Mem} {x : Int32} : Cn G yX2_columnsOf cX2_columnsOf 2 (some .int) 0 0 0 [.int x] μ (Is (some (.int (clO x))) μ) := by
  refine Cn.of' (by decide) (Nat.le_of_ble_eq_true rfl) rfl ?_
  refine v_ild0 dX2_columnsOf_0 ?_
  refine v_ild0 dX2_columnsOf_1 ?_
  refine v_bipush (v := nI 8) dX2_columnsOf_2 (by decide) ?_
  refine v_ishr dX2_columnsOf_4 ?_
  refine v_ior dX2_columnsOf_5 ?_
  refine v_ild0 dX2_columnsOf_6 ?_
  refine v_bipush (v := nI 16) dX2_columnsOf_7 (by decide) ?_
  refine v_ishr dX2_columnsOf_9 ?_
  refine v_ior dX2_columnsOf_10 ?_
  refine v_ist1 dX2_columnsOf_11 rfl ?_
  refine v_ild1 dX2_columnsOf_12 ?_
  refine v_ild1 dX2_columnsOf_13 ?_
  refine v_icN (n := 4) dX2_columnsOf_14 (by decide) ?_
  refine v_ishr dX2_columnsOf_15 ?_
  refine v_ior dX2_columnsOf_16 ?_
  refine v_bipush (v := nI 15) dX2_columnsOf_17 (by decide) ?_
  refine v_iand dX2_columnsOf_19 ?_
  refine v_ldc dX2_columnsOf_20 kc_X2_36 ?_
  refine v_imul dX2_columnsOf_22 ?_
  exact v_retI dX2_columnsOf_23 trivial ⟨rfl, rfl⟩

set_option maxRecDepth 4000 in
theorem c_X2_rowsOf {G : GG} {μ : Mem} {x : Int32} : Cn G yX2_rowsOf cX2_rowsOf 2 (some .int) 0 0 0 [.int x] μ (Is (some (.int (rwO x))) μ) := by
  refine Cn.of' (by decide) (Nat.le_of_ble_eq_true rfl) rfl ?_
  refine v_ild0 dX2_rowsOf_0 ?_
  refine v_ild0 dX2_rowsOf_1 ?_
  refine v_icN (n := 1) dX2_rowsOf_2 (by decide) ?_
  refine v_ishr dX2_rowsOf_3 ?_
  refine v_ior dX2_rowsOf_4 ?_
  refine v_ist1 dX2_rowsOf_5 rfl ?_
  refine v_ild1 dX2_rowsOf_6 ?_
  refine v_ild1 dX2_rowsOf_7 ?_
  refine v_icN (n := 2) dX2_rowsOf_8 (by decide) ?_
  refine v_ishr dX2_rowsOf_9 ?_
  refine v_ior dX2_rowsOf_10 ?_
  refine v_ldc dX2_rowsOf_11 kc_X2_36 ?_
  refine v_iand dX2_rowsOf_13 ?_
  refine v_bipush (v := nI 15) dX2_rowsOf_14 (by decide) ?_
  refine v_imul dX2_rowsOf_16 ?_
  exact v_retI dX2_rowsOf_17 trivial ⟨rfl, rfl⟩

abbrev oneC (x : Int32) : Prop := ¬ x = 0 ∧ (x &&& (x - nI 1)) = 0

set_option maxRecDepth 4000 in
theorem c_X2_isOneCell {G : GG} {μ : Mem} {x : Int32} : Cn G yX2_isOneCell cX2_isOneCell 1 (some .boolean) 0 0 0 [.int x] μ (Is (some (.int (bI (oneC x)))) μ) := by
  refine Cn.of' (by decide) (Nat.le_of_ble_eq_true rfl) rfl ?_
  refine v_ild0 dX2_isOneCell_0 ?_
  refine v_if_eq (tgt := 16) dX2_isOneCell_1 (by decide) (fun h1 => ?_) (fun h1 => ?_)
  · refine v_icN (n := 0) dX2_isOneCell_16 (by decide) ?_
    exact v_retI dX2_isOneCell_17 (by first | exact Or.inl rfl | exact Or.inr rfl | exact bI_01) (by rw [bI_f (fun z => z.1 h1)]; exact ⟨rfl, rfl⟩)
  · refine v_ild0 dX2_isOneCell_4 ?_
    refine v_ild0 dX2_isOneCell_5 ?_
    refine v_icN (n := 1) dX2_isOneCell_6 (by decide) ?_
    refine v_isub dX2_isOneCell_7 ?_
    refine v_iand dX2_isOneCell_8 ?_
    refine v_if_ne (tgt := 16) dX2_isOneCell_9 (by decide) (fun h9 => ?_) (fun h9 => ?_)
    · refine v_icN (n := 0) dX2_isOneCell_16 (by decide) ?_
      exact v_retI dX2_isOneCell_17 (by first | exact Or.inl rfl | exact Or.inr rfl | exact bI_01) (by rw [bI_f (fun z => h9 z.2)]; exact ⟨rfl, rfl⟩)
    · refine v_icN (n := 1) dX2_isOneCell_12 (by decide) ?_
      refine v_goto (tgt := 17) dX2_isOneCell_13 (by decide) ?_
      exact v_retI dX2_isOneCell_17 (by first | exact Or.inl rfl | exact Or.inr rfl | exact bI_01) (by rw [bI_t ⟨h1, h9⟩]; exact ⟨rfl, rfl⟩)

def pLR (x : Int32) (j : Nat) : Bool := decide (oneC (x &&& (nI 15 <<< (nI j * nI 4 &&& 31))))
def pLC (x : Int32) (j : Nat) : Bool := decide (oneC (x &&& (1118481 <<< (nI j &&& 31))))
def lone (x : Int32) : Nat := max (ct (pLR x) 6) (ct (pLC x) 4)
theorem nct_t' {p : Nat → Bool} {n : Nat} (h : p n = true) : nI (ct p n) + nI 1 = nI (ct p (n + 1)) := by rw [ct_t h, nI_add]
theorem nct_f' {p : Nat → Bool} {n : Nat} (h : p n = false) : nI (ct p n) + nI 0 = nI (ct p (n + 1)) := by rw [ct_f h, nI_add, Nat.add_zero]

set_option maxRecDepth 4000 in
theorem lp_ll2 {G : GG} {μ : Mem} {x : Int32} (k : Nat) : ∀ i, i + k = 4 → V G yX2_loneLines cX2_loneLines 4 (some .int) 1 0 0 42 [.int x, .int (nI (ct (pLR x) 6)), .int (nI (ct (pLC x) i)), .int (nI i)] [] μ (Is (some (.int (nI (lone x)))) μ) := by
  induction k with
  | zero =>
    intro i hi
    refine v_ild3 dX2_loneLines_42 ?_
    refine v_icN (n := 4) dX2_loneLines_43 (by decide) ?_
    refine v_icmp_ge (tgt := 73) dX2_loneLines_44 (by decide) (fun h44 => ?_) (fun h44 => absurd (nI_le (by omega) (by omega)) h44)
    refine v_ild1 dX2_loneLines_73 ?_
    refine v_ild2 dX2_loneLines_74 ?_
    refine v_mmax dX2_loneLines_75 lj_X2_37 (by decide) (Nat.le_of_ble_eq_true rfl) ?_
    rw [show i = 4 by omega, mx_nI (by have := ct_le (pLR x) 6; omega) (by have := ct_le (pLC x) 4; omega)]
    exact v_retI dX2_loneLines_78 trivial ⟨rfl, rfl⟩
  | succ k ih =>
    intro i hi
    refine v_ild3 dX2_loneLines_42 ?_
    refine v_icN (n := 4) dX2_loneLines_43 (by decide) ?_
    refine v_icmp_ge (tgt := 73) dX2_loneLines_44 (by decide) (fun h44 => absurd h44 (nI_ge (by omega) (by omega))) (fun h44 => ?_)
    refine v_ild2 dX2_loneLines_47 ?_
    refine v_ild0 dX2_loneLines_48 ?_
    refine v_ldc dX2_loneLines_49 kc_X2_36 ?_
    refine v_ild3 dX2_loneLines_51 ?_
    refine v_ishl dX2_loneLines_52 ?_
    refine v_iand dX2_loneLines_53 ?_
    refine v_S1 c_X2_isOneCell lk_X2_33 dX2_loneLines_54 (by decide) (Nat.le_of_ble_eq_true rfl) ?_
    refine v_ifeq_b (tgt := 64) dX2_loneLines_57 (by decide) (fun h57 => ?_) (fun h57 => ?_)
    · refine v_icN (n := 0) dX2_loneLines_64 (by decide) ?_
      refine v_iadd dX2_loneLines_65 ?_
      refine v_ist2 dX2_loneLines_66 rfl ?_
      refine v_inc3 dX2_loneLines_67 rfl ?_
      refine v_goto (tgt := 42) dX2_loneLines_70 (by decide) ?_
      rw [nI_1 i]
      rw [nct_f' (p := pLC x) (decide_eq_false h57)]
      exact ih (i + 1) (by omega)
    · refine v_icN (n := 1) dX2_loneLines_60 (by decide) ?_
      refine v_goto (tgt := 65) dX2_loneLines_61 (by decide) ?_
      refine v_iadd dX2_loneLines_65 ?_
      refine v_ist2 dX2_loneLines_66 rfl ?_
      refine v_inc3 dX2_loneLines_67 rfl ?_
      refine v_goto (tgt := 42) dX2_loneLines_70 (by decide) ?_
      rw [nI_1 i]
      rw [nct_t' (p := pLC x) (decide_eq_true h57)]
      exact ih (i + 1) (by omega)

set_option maxRecDepth 4000 in
theorem lp_ll {G : GG} {μ : Mem} {x : Int32} (k : Nat) : ∀ i, i + k = 6 → ∀ u : Value, V G yX2_loneLines cX2_loneLines 4 (some .int) 1 0 0 4 [.int x, .int (nI (ct (pLR x) i)), .int (nI i), u] [] μ (Is (some (.int (nI (lone x)))) μ) := by
  induction k with
  | zero =>
    intro i hi u
    refine v_ild2 dX2_loneLines_4 ?_
    refine v_bipush (v := nI 6) dX2_loneLines_5 (by decide) ?_
    refine v_icmp_ge (tgt := 38) dX2_loneLines_7 (by decide) (fun h7 => ?_) (fun h7 => absurd (nI_le (by omega) (by omega)) h7)
    rw [show i = 6 by omega]
    refine v_icN (n := 0) dX2_loneLines_38 (by decide) ?_
    refine v_ist2 dX2_loneLines_39 rfl ?_
    refine v_icN (n := 0) dX2_loneLines_40 (by decide) ?_
    refine v_ist3 dX2_loneLines_41 rfl ?_
    exact lp_ll2 4 0 (by omega)
  | succ k ih =>
    intro i hi u
    refine v_ild2 dX2_loneLines_4 ?_
    refine v_bipush (v := nI 6) dX2_loneLines_5 (by decide) ?_
    refine v_icmp_ge (tgt := 38) dX2_loneLines_7 (by decide) (fun h7 => absurd h7 (nI_ge (by omega) (by omega))) (fun h7 => ?_)
    refine v_ild1 dX2_loneLines_10 ?_
    refine v_ild0 dX2_loneLines_11 ?_
    refine v_bipush (v := nI 15) dX2_loneLines_12 (by decide) ?_
    refine v_ild2 dX2_loneLines_14 ?_
    refine v_icN (n := 4) dX2_loneLines_15 (by decide) ?_
    refine v_imul dX2_loneLines_16 ?_
    refine v_ishl dX2_loneLines_17 ?_
    refine v_iand dX2_loneLines_18 ?_
    refine v_S1 c_X2_isOneCell lk_X2_33 dX2_loneLines_19 (by decide) (Nat.le_of_ble_eq_true rfl) ?_
    refine v_ifeq_b (tgt := 29) dX2_loneLines_22 (by decide) (fun h22 => ?_) (fun h22 => ?_)
    · refine v_icN (n := 0) dX2_loneLines_29 (by decide) ?_
      refine v_iadd dX2_loneLines_30 ?_
      refine v_ist1 dX2_loneLines_31 rfl ?_
      refine v_inc2 dX2_loneLines_32 rfl ?_
      refine v_goto (tgt := 4) dX2_loneLines_35 (by decide) ?_
      rw [nI_1 i]
      rw [nct_f' (p := pLR x) (decide_eq_false h22)]
      exact ih (i + 1) (by omega) _
    · refine v_icN (n := 1) dX2_loneLines_25 (by decide) ?_
      refine v_goto (tgt := 30) dX2_loneLines_26 (by decide) ?_
      refine v_iadd dX2_loneLines_30 ?_
      refine v_ist1 dX2_loneLines_31 rfl ?_
      refine v_inc2 dX2_loneLines_32 rfl ?_
      refine v_goto (tgt := 4) dX2_loneLines_35 (by decide) ?_
      rw [nI_1 i]
      rw [nct_t' (p := pLR x) (decide_eq_true h22)]
      exact ih (i + 1) (by omega) _

set_option maxRecDepth 4000 in
theorem c_X2_loneLines {G : GG} {μ : Mem} {x : Int32} : Cn G yX2_loneLines cX2_loneLines 4 (some .int) 1 0 0 [.int x] μ (Is (some (.int (nI (lone x)))) μ) := by
  refine Cn.of' (by decide) (Nat.le_of_ble_eq_true rfl) rfl ?_
  refine v_icN (n := 0) dX2_loneLines_0 (by decide) ?_
  refine v_ist1 dX2_loneLines_1 rfl ?_
  refine v_icN (n := 0) dX2_loneLines_2 (by decide) ?_
  refine v_ist2 dX2_loneLines_3 rfl ?_
  exact lp_ll 6 0 (by omega) _

/-- whether a way leads from the row to the column: rows reached, rows reached before, rounds left -/
def csF (ps oth col : Int32) : Nat → Int32 → Int32 → Bool
  | 0, _, _ => false
  | k + 1, r, old => if r = old then false else if (clO (r &&& oth) &&& col) = 0 then csF ps oth col k (r ||| rwO (clO (r &&& oth) &&& oth &&& ps)) r else true
def cgF (ps oth row : Int32) : Nat → Int32 → Int32 → Bool
  | 0, _, _ => false
  | k + 1, c, old => if c = old then false else if (rwO (c &&& oth &&& ps) &&& row) = 0 then cgF ps oth row k (c ||| clO (rwO (c &&& oth &&& ps) &&& oth)) c else true

set_option maxRecDepth 4000 in
theorem lp_cs {G : GG} {dc : Nat} {I : Nat → Nat → Int32} {L : Nat → Nat → Int64} {row col oth : Int32} (k : Nat) : ∀ i (r old : Int32) (u : Value), i + k = 6 → V G yX2_canShrink cX2_canShrink 8 (some .boolean) 1 0 0 9 [.ref 18, .int row, .int col, .int oth, .int r, .int old, .int (nI i), u] [] (Mm dc I L) (Is (some (.int (bI (csF (I 18 1) oth col k r old = true)))) (Mm dc I L)) := by
  induction k with
  | zero =>
    intro i r old u hi
    refine v_ild6 dX2_canShrink_9 ?_
    refine v_bipush (v := nI 6) dX2_canShrink_11 (by decide) ?_
    refine v_icmp_ge (tgt := 68) dX2_canShrink_13 (by decide) (fun h13 => ?_) (fun h13 => absurd (nI_le (by omega) (by omega)) h13)
    refine v_icN (n := 0) dX2_canShrink_68 (by decide) ?_
    exact v_retI dX2_canShrink_69 (by first | exact Or.inl rfl | exact Or.inr rfl | exact bI_01) ⟨rfl, rfl⟩
  | succ k ih =>
    intro i r old u hi
    refine v_ild6 dX2_canShrink_9 ?_
    refine v_bipush (v := nI 6) dX2_canShrink_11 (by decide) ?_
    refine v_icmp_ge (tgt := 68) dX2_canShrink_13 (by decide) (fun h13 => absurd h13 (nI_ge (by omega) (by omega))) (fun h13 => ?_)
    refine v_ild4 dX2_canShrink_16 ?_
    refine v_ild5 dX2_canShrink_18 ?_
    refine v_icmp_eq (tgt := 68) dX2_canShrink_20 (by decide) (fun h20 => ?_) (fun h20 => ?_)
    · refine v_icN (n := 0) dX2_canShrink_68 (by decide) ?_
      exact v_retI dX2_canShrink_69 (by first | exact Or.inl rfl | exact Or.inr rfl | exact bI_01) (by rw [csF, if_pos h20]; exact ⟨rfl, rfl⟩)
    · refine v_ild4 dX2_canShrink_23 ?_
      refine v_ild3 dX2_canShrink_25 ?_
      refine v_iand dX2_canShrink_26 ?_
      refine v_S1 c_X2_columnsOf lk_X2_50 dX2_canShrink_27 (by decide) (Nat.le_of_ble_eq_true rfl) ?_
      refine v_ist7 dX2_canShrink_30 rfl ?_
      refine v_ild7 dX2_canShrink_32 ?_
      refine v_ild2 dX2_canShrink_34 ?_
      refine v_iand dX2_canShrink_35 ?_
      refine v_if_eq (tgt := 41) dX2_canShrink_36 (by decide) (fun h36 => ?_) (fun h36 => ?_)
      · refine v_ild4 dX2_canShrink_41 ?_
        refine v_ist5 dX2_canShrink_43 rfl ?_
        refine v_ild4 dX2_canShrink_45 ?_
        refine v_ild7 dX2_canShrink_47 ?_
        refine v_ild3 dX2_canShrink_49 ?_
        refine v_iand dX2_canShrink_50 ?_
        refine v_ald0 dX2_canShrink_51 ?_
        refine v_getI dX2_canShrink_52 fl_X2_17 (by first | rfl | exact lay_door (by omega) | exact lay_dt (by omega) | exact lay_da (by omega) | exact lay_sh (by omega) | exact lay_se (by omega)) rfl (by omega) ?_
        refine v_iand dX2_canShrink_55 ?_
        refine v_S1 c_X2_rowsOf lk_X2_53 dX2_canShrink_56 (by decide) (Nat.le_of_ble_eq_true rfl) ?_
        refine v_ior dX2_canShrink_59 ?_
        refine v_ist4 dX2_canShrink_60 rfl ?_
        refine v_inc6 dX2_canShrink_62 rfl ?_
        refine v_goto (tgt := 9) dX2_canShrink_65 (by decide) ?_
        rw [nI_1 i, csF, if_neg h20, if_pos h36]
        exact ih (i + 1) _ _ _ (by omega)
      · refine v_icN (n := 1) dX2_canShrink_39 (by decide) ?_
        exact v_retI dX2_canShrink_40 (by first | exact Or.inl rfl | exact Or.inr rfl | exact bI_01) (by rw [csF, if_neg h20, if_neg h36]; exact ⟨rfl, rfl⟩)

set_option maxRecDepth 4000 in
theorem c_X2_canShrink {G : GG} {dc : Nat} {I : Nat → Nat → Int32} {L : Nat → Nat → Int64} {row col oth : Int32} : Cn G yX2_canShrink cX2_canShrink 8 (some .boolean) 1 0 0 [.ref 18, .int row, .int col, .int oth] (Mm dc I L) (Is (some (.int (bI (csF (I 18 1) oth col 6 row (nI 0) = true)))) (Mm dc I L)) := by
  refine Cn.of' (by decide) (Nat.le_of_ble_eq_true rfl) rfl ?_
  refine v_ild1 dX2_canShrink_0 ?_
  refine v_ist4 dX2_canShrink_1 rfl ?_
  refine v_icN (n := 0) dX2_canShrink_3 (by decide) ?_
  refine v_ist5 dX2_canShrink_4 rfl ?_
  refine v_icN (n := 0) dX2_canShrink_6 (by decide) ?_
  refine v_ist6 dX2_canShrink_7 rfl ?_
  exact lp_cs 6 0 _ _ _ (by omega)

set_option maxRecDepth 4000 in
theorem lp_cg {G : GG} {dc : Nat} {I : Nat → Nat → Int32} {L : Nat → Nat → Int64} {row col oth : Int32} (k : Nat) : ∀ i (r old : Int32) (u : Value), i + k = 6 → V G yX2_canGrow cX2_canGrow 8 (some .boolean) 1 0 0 9 [.ref 18, .int row, .int col, .int oth, .int r, .int old, .int (nI i), u] [] (Mm dc I L) (Is (some (.int (bI (cgF (I 18 1) oth row k r old = true)))) (Mm dc I L)) := by
  induction k with
  | zero =>
    intro i r old u hi
    refine v_ild6 dX2_canGrow_9 ?_
    refine v_bipush (v := nI 6) dX2_canGrow_11 (by decide) ?_
    refine v_icmp_ge (tgt := 68) dX2_canGrow_13 (by decide) (fun h13 => ?_) (fun h13 => absurd (nI_le (by omega) (by omega)) h13)
    refine v_icN (n := 0) dX2_canGrow_68 (by decide) ?_
    exact v_retI dX2_canGrow_69 (by first | exact Or.inl rfl | exact Or.inr rfl | exact bI_01) ⟨rfl, rfl⟩
  | succ k ih =>
    intro i r old u hi
    refine v_ild6 dX2_canGrow_9 ?_
    refine v_bipush (v := nI 6) dX2_canGrow_11 (by decide) ?_
    refine v_icmp_ge (tgt := 68) dX2_canGrow_13 (by decide) (fun h13 => absurd h13 (nI_ge (by omega) (by omega))) (fun h13 => ?_)
    refine v_ild4 dX2_canGrow_16 ?_
    refine v_ild5 dX2_canGrow_18 ?_
    refine v_icmp_eq (tgt := 68) dX2_canGrow_20 (by decide) (fun h20 => ?_) (fun h20 => ?_)
    · refine v_icN (n := 0) dX2_canGrow_68 (by decide) ?_
      exact v_retI dX2_canGrow_69 (by first | exact Or.inl rfl | exact Or.inr rfl | exact bI_01) (by rw [cgF, if_pos h20]; exact ⟨rfl, rfl⟩)
    · refine v_ild4 dX2_canGrow_23 ?_
      refine v_ild3 dX2_canGrow_25 ?_
      refine v_iand dX2_canGrow_26 ?_
      refine v_ald0 dX2_canGrow_27 ?_
      refine v_getI dX2_canGrow_28 fl_X2_17 (by first | rfl | exact lay_door (by omega) | exact lay_dt (by omega) | exact lay_da (by omega) | exact lay_sh (by omega) | exact lay_se (by omega)) rfl (by omega) ?_
      refine v_iand dX2_canGrow_31 ?_
      refine v_S1 c_X2_rowsOf lk_X2_53 dX2_canGrow_32 (by decide) (Nat.le_of_ble_eq_true rfl) ?_
      refine v_ist7 dX2_canGrow_35 rfl ?_
      refine v_ild7 dX2_canGrow_37 ?_
      refine v_ild1 dX2_canGrow_39 ?_
      refine v_iand dX2_canGrow_40 ?_
      refine v_if_eq (tgt := 46) dX2_canGrow_41 (by decide) (fun h41 => ?_) (fun h41 => ?_)
      · refine v_ild4 dX2_canGrow_46 ?_
        refine v_ist5 dX2_canGrow_48 rfl ?_
        refine v_ild4 dX2_canGrow_50 ?_
        refine v_ild7 dX2_canGrow_52 ?_
        refine v_ild3 dX2_canGrow_54 ?_
        refine v_iand dX2_canGrow_55 ?_
        refine v_S1 c_X2_columnsOf lk_X2_50 dX2_canGrow_56 (by decide) (Nat.le_of_ble_eq_true rfl) ?_
        refine v_ior dX2_canGrow_59 ?_
        refine v_ist4 dX2_canGrow_60 rfl ?_
        refine v_inc6 dX2_canGrow_62 rfl ?_
        refine v_goto (tgt := 9) dX2_canGrow_65 (by decide) ?_
        rw [nI_1 i, cgF, if_neg h20, if_pos h41]
        exact ih (i + 1) _ _ _ (by omega)
      · refine v_icN (n := 1) dX2_canGrow_44 (by decide) ?_
        exact v_retI dX2_canGrow_45 (by first | exact Or.inl rfl | exact Or.inr rfl | exact bI_01) (by rw [cgF, if_neg h20, if_neg h41]; exact ⟨rfl, rfl⟩)

set_option maxRecDepth 4000 in
theorem c_X2_canGrow {G : GG} {dc : Nat} {I : Nat → Nat → Int32} {L : Nat → Nat → Int64} {row col oth : Int32} : Cn G yX2_canGrow cX2_canGrow 8 (some .boolean) 1 0 0 [.ref 18, .int row, .int col, .int oth] (Mm dc I L) (Is (some (.int (bI (cgF (I 18 1) oth row 6 col (nI 0) = true)))) (Mm dc I L)) := by
  refine Cn.of' (by decide) (Nat.le_of_ble_eq_true rfl) rfl ?_
  refine v_ild2 dX2_canGrow_0 ?_
  refine v_ist4 dX2_canGrow_1 rfl ?_
  refine v_icN (n := 0) dX2_canGrow_3 (by decide) ?_
  refine v_ist5 dX2_canGrow_4 rfl ?_
  refine v_icN (n := 0) dX2_canGrow_6 (by decide) ?_
  refine v_ist6 dX2_canGrow_7 rfl ?_
  exact lp_cg 6 0 _ _ _ (by omega)

/-- a small cell that follows -/
abbrev oth (x : Int32) (j : Nat) : Int32 := x &&& ((nI 1 <<< (nI j &&& 31)) ^^^ -1)
abbrev rwC (j : Nat) : Int32 := nI 15 <<< (nI (j / 4) * nI 4 &&& 31)
abbrev clC (j : Nat) : Int32 := 1118481 <<< (nI (j % 4) &&& 31)
def pNF (sm ps x : Int32) (j : Nat) : Bool := decide (sbit sm (nI j) ∧ ¬ csF ps (oth x j) (clC j) 6 (rwC j) (nI 0) = true ∧ ¬ cgF ps (oth x j) (rwC j) 6 (clC j) (nI 0) = true)
abbrev nfo (sm ps x : Int32) : Prop := fzf (pNF sm ps x) 0 24 = 24

set_option maxRecDepth 4000 in
theorem lp_nf {G : GG} {dc : Nat} {I : Nat → Nat → Int32} {L : Nat → Nat → Int64} {x : Int32} (k : Nat) : ∀ i, i + k = 24 → ∀ u3 u4 u5 : Value, V G yX2_noneFollows cX2_noneFollows 6 (some .boolean) 2 0 0 2 [.ref 18, .int x, .int (nI i), u3, u4, u5] [] (Mm dc I L) (Is (some (.int (bI (fzf (pNF (I 18 0) (I 18 1) x) i k = 24)))) (Mm dc I L)) := by
  induction k with
  | zero =>
    intro i hi u3 u4 u5
    refine v_ild2 dX2_noneFollows_2 ?_
    refine v_bipush (v := nI 24) dX2_noneFollows_3 (by decide) ?_
    refine v_icmp_ge (tgt := 80) dX2_noneFollows_5 (by decide) (fun h5 => ?_) (fun h5 => absurd (nI_le (by omega) (by omega)) h5)
    refine v_icN (n := 1) dX2_noneFollows_80 (by decide) ?_
    exact v_retI dX2_noneFollows_81 (by first | exact Or.inl rfl | exact Or.inr rfl | exact bI_01) (by rw [bI_t (by rw [fzf]; omega)]; exact ⟨rfl, rfl⟩)
  | succ k ih =>
    intro i hi u3 u4 u5
    refine v_ild2 dX2_noneFollows_2 ?_
    refine v_bipush (v := nI 24) dX2_noneFollows_3 (by decide) ?_
    refine v_icmp_ge (tgt := 80) dX2_noneFollows_5 (by decide) (fun h5 => absurd h5 (nI_ge (by omega) (by omega))) (fun h5 => ?_)
    refine v_ald0 dX2_noneFollows_8 ?_
    refine v_getI dX2_noneFollows_9 fl_X2_11 (by first | rfl | exact lay_door (by omega) | exact lay_dt (by omega) | exact lay_da (by omega) | exact lay_sh (by omega) | exact lay_se (by omega)) rfl (by omega) ?_
    refine v_ild2 dX2_noneFollows_12 ?_
    refine v_ishr dX2_noneFollows_13 ?_
    refine v_icN (n := 1) dX2_noneFollows_14 (by decide) ?_
    refine v_iand dX2_noneFollows_15 ?_
    refine v_if_ne (tgt := 22) dX2_noneFollows_16 (by decide) (fun h16 => ?_) (fun h16 => ?_)
    · refine v_ild1 dX2_noneFollows_22 ?_
      refine v_icN (n := 1) dX2_noneFollows_23 (by decide) ?_
      refine v_ild2 dX2_noneFollows_24 ?_
      refine v_ishl dX2_noneFollows_25 ?_
      refine v_icm1 dX2_noneFollows_26 ?_
      refine v_ixor dX2_noneFollows_27 ?_
      refine v_iand dX2_noneFollows_28 ?_
      refine v_ist3 dX2_noneFollows_29 rfl ?_
      refine v_bipush (v := nI 15) dX2_noneFollows_30 (by decide) ?_
      refine v_ild2 dX2_noneFollows_32 ?_
      refine v_icN (n := 4) dX2_noneFollows_33 (by decide) ?_
      refine v_idiv dX2_noneFollows_34 (by decide) ?_
      refine v_icN (n := 4) dX2_noneFollows_35 (by decide) ?_
      rw [pk_div (by omega) (by decide) (by decide)]
      refine v_imul dX2_noneFollows_36 ?_
      refine v_ishl dX2_noneFollows_37 ?_
      refine v_ist4 dX2_noneFollows_38 rfl ?_
      refine v_ldc dX2_noneFollows_40 kc_X2_36 ?_
      refine v_ild2 dX2_noneFollows_42 ?_
      refine v_icN (n := 4) dX2_noneFollows_43 (by decide) ?_
      refine v_irem dX2_noneFollows_44 (by decide) ?_
      rw [pk_rem (by omega) (by decide) (by decide)]
      refine v_ishl dX2_noneFollows_45 ?_
      refine v_ist5 dX2_noneFollows_46 rfl ?_
      refine v_ald0 dX2_noneFollows_48 ?_
      refine v_ild4 dX2_noneFollows_49 ?_
      refine v_ild5 dX2_noneFollows_51 ?_
      refine v_ild3 dX2_noneFollows_53 ?_
      refine v_V3 c_X2_canShrink lk_X2_43 dX2_noneFollows_54 (by decide) (Nat.le_of_ble_eq_true rfl) (by first | rfl | exact lay_door (by omega) | exact lay_dt (by omega) | exact lay_da (by omega) | exact lay_sh (by omega) | exact lay_se (by omega)) (show _ < 78 + 3 * _ by omega) ?_
      refine v_ifne_b (tgt := 74) dX2_noneFollows_57 (by decide) (fun h57 => ?_) (fun h57 => ?_)
      · refine v_inc2 dX2_noneFollows_74 rfl ?_
        refine v_goto (tgt := 2) dX2_noneFollows_77 (by decide) ?_
        rw [nI_1 i, fzf_f (p := pNF (I 18 0) (I 18 1) x) (decide_eq_false (fun z => z.2.1 h57))]
        exact ih (i + 1) (by omega) _ _ _
      · refine v_ald0 dX2_noneFollows_60 ?_
        refine v_ild4 dX2_noneFollows_61 ?_
        refine v_ild5 dX2_noneFollows_63 ?_
        refine v_ild3 dX2_noneFollows_65 ?_
        refine v_V3 c_X2_canGrow lk_X2_47 dX2_noneFollows_66 (by decide) (Nat.le_of_ble_eq_true rfl) (by first | rfl | exact lay_door (by omega) | exact lay_dt (by omega) | exact lay_da (by omega) | exact lay_sh (by omega) | exact lay_se (by omega)) (show _ < 78 + 3 * _ by omega) ?_
        refine v_ifne_b (tgt := 74) dX2_noneFollows_69 (by decide) (fun h69 => ?_) (fun h69 => ?_)
        · refine v_inc2 dX2_noneFollows_74 rfl ?_
          refine v_goto (tgt := 2) dX2_noneFollows_77 (by decide) ?_
          rw [nI_1 i, fzf_f (p := pNF (I 18 0) (I 18 1) x) (decide_eq_false (fun z => z.2.2 h69))]
          exact ih (i + 1) (by omega) _ _ _
        · refine v_icN (n := 0) dX2_noneFollows_72 (by decide) ?_
          exact v_retI dX2_noneFollows_73 (by first | exact Or.inl rfl | exact Or.inr rfl | exact bI_01) (by rw [fzf_t (p := pNF (I 18 0) (I 18 1) x) (decide_eq_true ⟨h16, h57, h69⟩), bI_f (by omega)]; exact ⟨rfl, rfl⟩)
    · refine v_goto (tgt := 74) dX2_noneFollows_19 (by decide) ?_
      refine v_inc2 dX2_noneFollows_74 rfl ?_
      refine v_goto (tgt := 2) dX2_noneFollows_77 (by decide) ?_
      rw [nI_1 i, fzf_f (p := pNF (I 18 0) (I 18 1) x) (decide_eq_false (fun z => z.1 h16))]
      exact ih (i + 1) (by omega) _ _ _

set_option maxRecDepth 4000 in
theorem c_X2_noneFollows {G : GG} {dc : Nat} {I : Nat → Nat → Int32} {L : Nat → Nat → Int64} {x : Int32} : Cn G yX2_noneFollows cX2_noneFollows 6 (some .boolean) 2 0 0 [.ref 18, .int x] (Mm dc I L) (Is (some (.int (bI (nfo (I 18 0) (I 18 1) x)))) (Mm dc I L)) := by
  refine Cn.of' (by decide) (Nat.le_of_ble_eq_true rfl) rfl ?_
  refine v_icN (n := 0) dX2_noneFollows_0 (by decide) ?_
  refine v_ist2 dX2_noneFollows_1 rfl ?_
  exact lp_nf 24 0 (by omega) _ _ _

/-- the first cell from j on, of k, that isn't small and with which a set is found -/
def chL (sm x : Int32) (g : Nat → Int32 → Int32) : Nat → Nat → Int32
  | _, 0 => -1
  | j, k + 1 => if sbit sm (nI j) then chL sm x g (j + 1) k else (if g (j + 1) (x ||| (nI 1 <<< (nI j &&& 31))) = -1 then chL sm x g (j + 1) k else g (j + 1) (x ||| (nI 1 <<< (nI j &&& 31))))
abbrev rst (x : Int32) (f : Nat) : Int32 := x ||| ((16777215 <<< (nI f &&& 31)) &&& 16777215)
def chF (sm ps : Int32) : Nat → Nat → Int32 → Int32
  | 0, _, x => if nI (lone x) ≤ nI 0 then (if nfo sm ps x then x else -1) else -1
  | l + 1, f, x => if nI (lone x) ≤ nI (l + 1) then (if nfo sm ps (rst x f) then chL sm x (chF sm ps l) f (24 - f) else -1) else -1

set_option maxRecDepth 4000 in
theorem c_ch0 {G : GG} {dc : Nat} {I : Nat → Nat → Int32} {L : Nat → Nat → Int64} {f : Nat} {x : Int32} : Cn G yX2_choose cX2_choose 6 (some .int) 3 0 0 [.ref 18, .int (nI f), .int x, .int (nI 0)] (Mm dc I L) (Is (some (.int (chF (I 18 0) (I 18 1) 0 f x))) (Mm dc I L)) := by
  refine Cn.of' (by decide) (Nat.le_of_ble_eq_true rfl) rfl ?_
  refine v_ild2 dX2_choose_0 ?_
  refine v_S1 c_X2_loneLines lk_X2_24 dX2_choose_1 (by decide) (Nat.le_of_ble_eq_true rfl) ?_
  refine v_ild3 dX2_choose_4 ?_
  refine v_icmp_le (tgt := 10) dX2_choose_5 (by decide) (fun h5 => ?_) (fun h5 => ?_)
  · refine v_ild3 dX2_choose_10 ?_
    refine v_if_gt (tgt := 28) dX2_choose_11 (by decide) (fun h11 => absurd h11 (by decide)) (fun h11 => ?_)
    refine v_ald0 dX2_choose_14 ?_
    refine v_ild2 dX2_choose_15 ?_
    refine v_V1 c_X2_noneFollows lk_X2_28 dX2_choose_16 (by decide) (Nat.le_of_ble_eq_true rfl) (by first | rfl | exact lay_door (by omega) | exact lay_dt (by omega) | exact lay_da (by omega) | exact lay_sh (by omega) | exact lay_se (by omega)) (show _ < 78 + 3 * _ by omega) ?_
    refine v_ifeq_b (tgt := 26) dX2_choose_19 (by decide) (fun h19 => ?_) (fun h19 => ?_)
    · refine v_icm1 dX2_choose_26 ?_
      exact v_retI dX2_choose_27 trivial (by rw [chF, if_pos h5, if_neg h19]; exact ⟨rfl, rfl⟩)
    · refine v_ild2 dX2_choose_22 ?_
      refine v_goto (tgt := 27) dX2_choose_23 (by decide) ?_
      exact v_retI dX2_choose_27 trivial (by rw [chF, if_pos h5, if_pos h19]; exact ⟨rfl, rfl⟩)
  · refine v_icm1 dX2_choose_8 ?_
    exact v_retI dX2_choose_9 trivial (by rw [chF, if_neg h5]; exact ⟨rfl, rfl⟩)

set_option maxRecDepth 4000 in
theorem lp_cho {G : GG} {dc : Nat} {I : Nat → Nat → Int32} {L : Nat → Nat → Int64} {f l : Nat} {x : Int32} (hf : f ≤ 24) (hl : l ≤ 3) (hI : ∀ (f : Nat) (x : Int32), f ≤ 24 → Cn G yX2_choose cX2_choose 6 (some .int) (3 + l) 0 0 [.ref 18, .int (nI f), .int x, .int (nI l)] (Mm dc I L) (Is (some (.int (chF (I 18 0) (I 18 1) l f x))) (Mm dc I L))) (k : Nat) : ∀ j (u : Value), j + k = 24 → V G yX2_choose cX2_choose 6 (some .int) (3 + (l + 1)) 0 0 49 [.ref 18, .int (nI f), .int x, .int (nI (l + 1)), .int (nI j), u] [] (Mm dc I L) (Is (some (.int (chL (I 18 0) x (chF (I 18 0) (I 18 1) l) j k))) (Mm dc I L)) := by
  induction k with
  | zero =>
    intro i u hi
    refine v_ild4 dX2_choose_49 ?_
    refine v_bipush (v := nI 24) dX2_choose_51 (by decide) ?_
    refine v_icmp_ge (tgt := 102) dX2_choose_53 (by decide) (fun h53 => ?_) (fun h53 => absurd (nI_le (by omega) (by omega)) h53)
    refine v_icm1 dX2_choose_102 ?_
    exact v_retI dX2_choose_103 trivial ⟨rfl, rfl⟩
  | succ k ih =>
    intro i u hi
    refine v_ild4 dX2_choose_49 ?_
    refine v_bipush (v := nI 24) dX2_choose_51 (by decide) ?_
    refine v_icmp_ge (tgt := 102) dX2_choose_53 (by decide) (fun h53 => absurd h53 (nI_ge (by omega) (by decide))) (fun h53 => ?_)
    refine v_ald0 dX2_choose_56 ?_
    refine v_getI dX2_choose_57 fl_X2_11 (by first | rfl | exact lay_door (by omega) | exact lay_dt (by omega) | exact lay_da (by omega) | exact lay_sh (by omega) | exact lay_se (by omega)) rfl (by omega) ?_
    refine v_ild4 dX2_choose_60 ?_
    refine v_ishr dX2_choose_62 ?_
    refine v_icN (n := 1) dX2_choose_63 (by decide) ?_
    refine v_iand dX2_choose_64 ?_
    refine v_if_ne (tgt := 96) dX2_choose_65 (by decide) (fun h65 => ?_) (fun h65 => ?_)
    · refine v_inc4 dX2_choose_96 rfl ?_
      refine v_goto (tgt := 49) dX2_choose_99 (by decide) ?_
      rw [nI_1 i, chL, if_pos h65]
      exact ih (i + 1) _ (by omega)
    · refine v_ald0 dX2_choose_68 ?_
      refine v_ild4 dX2_choose_69 ?_
      refine v_icN (n := 1) dX2_choose_71 (by decide) ?_
      refine v_iadd dX2_choose_72 ?_
      refine v_ild2 dX2_choose_73 ?_
      refine v_icN (n := 1) dX2_choose_74 (by decide) ?_
      refine v_ild4 dX2_choose_75 ?_
      refine v_ishl dX2_choose_77 ?_
      refine v_ior dX2_choose_78 ?_
      refine v_ild3 dX2_choose_79 ?_
      refine v_icN (n := 1) dX2_choose_80 (by decide) ?_
      refine v_isub dX2_choose_81 ?_
      refine v_e0 (congrArg Value.int (show _ = nI l by rw [pk_sub (by omega), Nat.add_sub_cancel])) ?_
      refine v_e2 (congrArg Value.int (show _ = nI (i + 1) from nI_add i 1)) ?_
      refine v_S4 (hI (i + 1) _ (by omega)) lk_X2_20 dX2_choose_82 (by omega) (Nat.le_of_ble_eq_true rfl) ?_
      refine v_ist5 dX2_choose_85 rfl ?_
      refine v_ild5 dX2_choose_87 ?_
      refine v_icm1 dX2_choose_89 ?_
      refine v_icmp_eq (tgt := 96) dX2_choose_90 (by decide) (fun h90 => ?_) (fun h90 => ?_)
      · refine v_inc4 dX2_choose_96 rfl ?_
        refine v_goto (tgt := 49) dX2_choose_99 (by decide) ?_
        rw [nI_1 i, chL, if_neg (fun z => z h65), if_pos h90]
        exact ih (i + 1) _ (by omega)
      · refine v_ild5 dX2_choose_93 ?_
        exact v_retI dX2_choose_95 trivial (by rw [chL, if_neg (fun z => z h65), if_neg h90]; exact ⟨rfl, rfl⟩)

set_option maxRecDepth 4000 in
theorem c_chS {G : GG} {dc : Nat} {I : Nat → Nat → Int32} {L : Nat → Nat → Int64} {f l : Nat} {x : Int32} (hf : f ≤ 24) (hl : l ≤ 3) (hI : ∀ (f : Nat) (x : Int32), f ≤ 24 → Cn G yX2_choose cX2_choose 6 (some .int) (3 + l) 0 0 [.ref 18, .int (nI f), .int x, .int (nI l)] (Mm dc I L) (Is (some (.int (chF (I 18 0) (I 18 1) l f x))) (Mm dc I L))) : Cn G yX2_choose cX2_choose 6 (some .int) (3 + (l + 1)) 0 0 [.ref 18, .int (nI f), .int x, .int (nI (l + 1))] (Mm dc I L) (Is (some (.int (chF (I 18 0) (I 18 1) (l + 1) f x))) (Mm dc I L)) := by
  refine Cn.of' (by decide) (Nat.le_of_ble_eq_true rfl) rfl ?_
  refine v_ild2 dX2_choose_0 ?_
  refine v_S1 c_X2_loneLines lk_X2_24 dX2_choose_1 (by omega) (Nat.le_of_ble_eq_true rfl) ?_
  refine v_ild3 dX2_choose_4 ?_
  refine v_icmp_le (tgt := 10) dX2_choose_5 (by decide) (fun h5 => ?_) (fun h5 => ?_)
  · refine v_ild3 dX2_choose_10 ?_
    refine v_if_gt (tgt := 28) dX2_choose_11 (by decide) (fun h11 => ?_) (fun h11 => absurd (nI_lt (a := 0) (b := l + 1) (by omega) (by omega)) h11)
    refine v_ald0 dX2_choose_28 ?_
    refine v_ild2 dX2_choose_29 ?_
    refine v_ldc dX2_choose_30 kc_X2_32 ?_
    refine v_ild1 dX2_choose_32 ?_
    refine v_ishl dX2_choose_33 ?_
    refine v_ldc dX2_choose_34 kc_X2_32 ?_
    refine v_iand dX2_choose_36 ?_
    refine v_ior dX2_choose_37 ?_
    refine v_V1 c_X2_noneFollows lk_X2_28 dX2_choose_38 (by omega) (Nat.le_of_ble_eq_true rfl) (by first | rfl | exact lay_door (by omega) | exact lay_dt (by omega) | exact lay_da (by omega) | exact lay_sh (by omega) | exact lay_se (by omega)) (show _ < 78 + 3 * _ by omega) ?_
    refine v_ifne_b (tgt := 46) dX2_choose_41 (by decide) (fun h41 => ?_) (fun h41 => ?_)
    · refine v_ild1 dX2_choose_46 ?_
      refine v_ist4 dX2_choose_47 rfl ?_
      rw [chF, if_pos h5, if_pos h41]
      exact lp_cho hf hl hI (24 - f) f _ (by omega)
    · refine v_icm1 dX2_choose_44 ?_
      exact v_retI dX2_choose_45 trivial (by rw [chF, if_pos h5, if_neg h41]; exact ⟨rfl, rfl⟩)
  · refine v_icm1 dX2_choose_8 ?_
    exact v_retI dX2_choose_9 trivial (by rw [chF, if_neg h5]; exact ⟨rfl, rfl⟩)

theorem c_X2_choose {G : GG} {dc : Nat} {I : Nat → Nat → Int32} {L : Nat → Nat → Int64} : ∀ (l : Nat), l ≤ 4 → ∀ (f : Nat) (x : Int32), f ≤ 24 → Cn G yX2_choose cX2_choose 6 (some .int) (3 + l) 0 0 [.ref 18, .int (nI f), .int x, .int (nI l)] (Mm dc I L) (Is (some (.int (chF (I 18 0) (I 18 1) l f x))) (Mm dc I L))
  | 0, _, f, x, hf => c_ch0
  | l + 1, hl, f, x, hf => c_chS hf (by omega) (fun f x hf => c_X2_choose l (by omega) f x hf)
