def itr {α : Type} (f : Nat → α → α) : Nat → α → α
  | 0, a => a
  | n + 1, a => f n (itr f n a)
def stm (I : Nat → Nat → Int32) (b w : Nat) : Nat → Nat → Int32 := u2 (u2 I 12 w (I 12 w ||| (nI 1 <<< (nI b &&& 31)))) 13 b (nI w)
def clm (I : Nat → Nat → Int32) (b w : Nat) : Nat → Nat → Int32 := u2 I 12 w (I 12 w &&& ((nI 1 <<< (nI b &&& 31)) ^^^ -1))
/-- all partings of the last m blocks behind k walks are judged -/
def plI : Nat → (Nat → Nat → Int32) → Nat → Nat → Nat → Int32
  | 0, I, k => if nI k ≤ I 8 8 then jdI I k else I
  | m + 1, I, k => if nI k ≤ I 8 8 then (if sbit (I 8 6) (nI (5 - m)) then itr (fun w J => clm (plI m (stm J (5 - m) w) (max k (w + 1))) (5 - m) w) (min (k + 1) 6) I else plI m I k) else I
theorem mx_nI {a b : Nat} (ha : a < 2 ^ 31) (hb : b < 2 ^ 31) : (if nI a < nI b then nI b else nI a) = nI (max a b) := by
  by_cases h : a < b
  · rw [if_pos (nI_lt h hb), Nat.max_eq_right (by omega)]
  · rw [if_neg (nI_nlt (by omega) ha), Nat.max_eq_left (by omega)]

set_option maxRecDepth 4000 in
theorem c_pl0 {G : GG} {dc : Nat} {I : Nat → Nat → Int32} {L : Nat → Nat → Int64} {n : Nat} (hn : n ≤ 6) : Cn G yX7_place cX7_place 4 none 4 0 0 [.ref 8, .int (nI 6), .int (nI n)] (Mm dc I L) (Is none (Mm dc (plI 0 I n) L)) := by
  refine Cn.of' (by decide) (Nat.le_of_ble_eq_true rfl) rfl ?_
  refine v_ild2 dX7_place_0 ?_
  refine v_ald0 dX7_place_1 ?_
  refine v_getI dX7_place_2 fl_X7_43 (by first | rfl | exact lay_door (by omega) | exact lay_dt (by omega) | exact lay_da (by omega) | exact lay_sh (by omega) | exact lay_se (by omega)) rfl (by omega) ?_
  refine v_icmp_le (tgt := 9) dX7_place_5 (by decide) (fun h5 => ?_) (fun h5 => ?_)
  · refine v_ild1 dX7_place_9 ?_
    refine v_bipush (v := nI 6) dX7_place_10 (by decide) ?_
    refine v_icmp_lt (tgt := 21) dX7_place_12 (by decide) (fun h12 => absurd h12 (by decide)) (fun h12 => ?_)
    refine v_ald0 dX7_place_15 ?_
    refine v_ild2 dX7_place_16 ?_
    refine v_V1n (c_X7_judge hn) lk_X7_59 dX7_place_17 (by decide) (Nat.le_of_ble_eq_true rfl) (by first | rfl | exact lay_door (by omega) | exact lay_dt (by omega) | exact lay_da (by omega) | exact lay_sh (by omega) | exact lay_se (by omega)) (show _ < 78 + 3 * _ by omega) ?_
    exact v_retV dX7_place_20 trivial (by rw [plI, if_pos h5]; exact ⟨rfl, rfl⟩)
  · exact v_retV dX7_place_8 trivial (by rw [plI, if_neg h5]; exact ⟨rfl, rfl⟩)

set_option maxRecDepth 4000 in
theorem lp_pl {G : GG} {dc : Nat} {L : Nat → Nat → Int64} {m n : Nat} (hm : m ≤ 5) (hn : n ≤ 6) (hI : ∀ (I : Nat → Nat → Int32) (k : Nat), k ≤ 6 → Cn G yX7_place cX7_place 4 none (4 + m) 0 0 [.ref 8, .int (nI (6 - m)), .int (nI k)] (Mm dc I L) (Is none (Mm dc (plI m I k) L))) {I : Nat → Nat → Int32} (k : Nat) : ∀ i, i + k = min (n + 1) 6 → V G yX7_place cX7_place 4 none (4 + (m + 1)) 0 0 43 [.ref 8, .int (nI (5 - m)), .int (nI n), .int (nI i)] [] (Mm dc (itr (fun w J => clm (plI m (stm J (5 - m) w) (max n (w + 1))) (5 - m) w) i I) L) (Is none (Mm dc (itr (fun w J => clm (plI m (stm J (5 - m) w) (max n (w + 1))) (5 - m) w) (min (n + 1) 6) I) L)) := by
  induction k with
  | zero =>
    intro i hi
    refine v_ild3 dX7_place_43 ?_
    refine v_ild2 dX7_place_44 ?_
    refine v_icmp_gt (tgt := 107) dX7_place_45 (by decide) (fun h45 => ?_) (fun h45 => ?_)
    · exact v_retV dX7_place_107 trivial (by rw [show i = min (n + 1) 6 by omega]; exact ⟨rfl, rfl⟩)
    · refine v_ild3 dX7_place_48 ?_
      refine v_bipush (v := nI 6) dX7_place_49 (by decide) ?_
      refine v_icmp_ge (tgt := 107) dX7_place_51 (by decide) (fun h51 => ?_) (fun h51 => absurd (nI_le (by have := nI_leI (a := i) (b := n) (by omega) (by omega); by_cases hz : i ≤ n; omega; exact absurd (nI_lt (by omega) (by omega)) h45) (by omega)) h51)
      exact v_retV dX7_place_107 trivial (by rw [show i = min (n + 1) 6 by omega]; exact ⟨rfl, rfl⟩)
  | succ k ih =>
    intro i hi
    refine v_ild3 dX7_place_43 ?_
    refine v_ild2 dX7_place_44 ?_
    refine v_icmp_gt (tgt := 107) dX7_place_45 (by decide) (fun h45 => absurd h45 (nI_nlt (by omega) (by omega))) (fun h45 => ?_)
    refine v_ild3 dX7_place_48 ?_
    refine v_bipush (v := nI 6) dX7_place_49 (by decide) ?_
    refine v_icmp_ge (tgt := 107) dX7_place_51 (by decide) (fun h51 => absurd h51 (nI_ge (by omega) (by decide))) (fun h51 => ?_)
    refine v_ald0 dX7_place_54 ?_
    refine v_getP (q := 12) dX7_place_55 fl_X7_21 (by first | rfl | exact lay_door (by omega) | exact lay_dt (by omega) | exact lay_da (by omega) | exact lay_sh (by omega) | exact lay_se (by omega)) rfl (by omega) rfl ?_
    refine v_ild3 dX7_place_58 ?_
    refine v_dup2 dX7_place_59 ?_
    refine v_iald dX7_place_60 (by first | rfl | exact lay_door (by omega) | exact lay_dt (by omega) | exact lay_da (by omega) | exact lay_sh (by omega) | exact lay_se (by omega)) (by omega) ⟨rfl, by omega, by decide⟩ ?_
    refine v_icN (n := 1) dX7_place_61 (by decide) ?_
    refine v_ild1 dX7_place_62 ?_
    refine v_ishl dX7_place_63 ?_
    refine v_ior dX7_place_64 ?_
    refine v_iast dX7_place_65 (by first | rfl | exact lay_door (by omega) | exact lay_dt (by omega) | exact lay_da (by omega) | exact lay_sh (by omega) | exact lay_se (by omega)) (by omega) ⟨rfl, by omega, by decide⟩ ?_
    refine v_ald0 dX7_place_66 ?_
    refine v_getP (q := 13) dX7_place_67 fl_X7_24 (by first | rfl | exact lay_door (by omega) | exact lay_dt (by omega) | exact lay_da (by omega) | exact lay_sh (by omega) | exact lay_se (by omega)) rfl (by omega) rfl ?_
    refine v_ild1 dX7_place_70 ?_
    refine v_ild3 dX7_place_71 ?_
    refine v_iast dX7_place_72 (by first | rfl | exact lay_door (by omega) | exact lay_dt (by omega) | exact lay_da (by omega) | exact lay_sh (by omega) | exact lay_se (by omega)) (by omega) ⟨rfl, by omega, by decide⟩ ?_
    refine v_ald0 dX7_place_73 ?_
    refine v_ild1 dX7_place_74 ?_
    refine v_icN (n := 1) dX7_place_75 (by decide) ?_
    refine v_iadd dX7_place_76 ?_
    refine v_ild2 dX7_place_77 ?_
    refine v_ild3 dX7_place_78 ?_
    refine v_icN (n := 1) dX7_place_79 (by decide) ?_
    refine v_iadd dX7_place_80 ?_
    refine v_mmax dX7_place_81 lj_X7_63 (by omega) (Nat.le_of_ble_eq_true rfl) ?_
    refine v_e0 (congrArg Value.int (show _ = nI (max n (i + 1)) by rw [nI_add, mx_nI (by omega) (by omega)])) ?_
    refine v_e1 (congrArg Value.int (show _ = nI (6 - m) by rw [nI_add, show 5 - m + 1 = 6 - m by omega])) ?_
    refine v_S3n (hI _ (max n (i + 1)) (by omega)) lk_X7_49 dX7_place_84 (by omega) (Nat.le_of_ble_eq_true rfl) ?_
    refine v_ald0 dX7_place_87 ?_
    refine v_getP (q := 12) dX7_place_88 fl_X7_21 (by first | rfl | exact lay_door (by omega) | exact lay_dt (by omega) | exact lay_da (by omega) | exact lay_sh (by omega) | exact lay_se (by omega)) rfl (by omega) rfl ?_
    refine v_ild3 dX7_place_91 ?_
    refine v_dup2 dX7_place_92 ?_
    refine v_iald dX7_place_93 (by first | rfl | exact lay_door (by omega) | exact lay_dt (by omega) | exact lay_da (by omega) | exact lay_sh (by omega) | exact lay_se (by omega)) (by omega) ⟨rfl, by omega, by decide⟩ ?_
    refine v_icN (n := 1) dX7_place_94 (by decide) ?_
    refine v_ild1 dX7_place_95 ?_
    refine v_ishl dX7_place_96 ?_
    refine v_icm1 dX7_place_97 ?_
    refine v_ixor dX7_place_98 ?_
    refine v_iand dX7_place_99 ?_
    refine v_iast dX7_place_100 (by first | rfl | exact lay_door (by omega) | exact lay_dt (by omega) | exact lay_da (by omega) | exact lay_sh (by omega) | exact lay_se (by omega)) (by omega) ⟨rfl, by omega, by decide⟩ ?_
    refine v_inc3 dX7_place_101 rfl ?_
    refine v_goto (tgt := 43) dX7_place_104 (by decide) ?_
    rw [nI_1 i]
    exact ih (i + 1) (by omega)

set_option maxRecDepth 4000 in
theorem c_plS {G : GG} {dc : Nat} {L : Nat → Nat → Int64} {m n : Nat} (hm : m ≤ 5) (hn : n ≤ 6) (hI : ∀ (I : Nat → Nat → Int32) (k : Nat), k ≤ 6 → Cn G yX7_place cX7_place 4 none (4 + m) 0 0 [.ref 8, .int (nI (6 - m)), .int (nI k)] (Mm dc I L) (Is none (Mm dc (plI m I k) L))) {I : Nat → Nat → Int32} : Cn G yX7_place cX7_place 4 none (4 + (m + 1)) 0 0 [.ref 8, .int (nI (5 - m)), .int (nI n)] (Mm dc I L) (Is none (Mm dc (plI (m + 1) I n) L)) := by
  refine Cn.of' (by decide) (Nat.le_of_ble_eq_true rfl) rfl ?_
  refine v_ild2 dX7_place_0 ?_
  refine v_ald0 dX7_place_1 ?_
  refine v_getI dX7_place_2 fl_X7_43 (by first | rfl | exact lay_door (by omega) | exact lay_dt (by omega) | exact lay_da (by omega) | exact lay_sh (by omega) | exact lay_se (by omega)) rfl (by omega) ?_
  refine v_icmp_le (tgt := 9) dX7_place_5 (by decide) (fun h5 => ?_) (fun h5 => ?_)
  · refine v_ild1 dX7_place_9 ?_
    refine v_bipush (v := nI 6) dX7_place_10 (by decide) ?_
    refine v_icmp_lt (tgt := 21) dX7_place_12 (by decide) (fun h12 => ?_) (fun h12 => absurd (nI_lt (by omega) (by decide)) h12)
    refine v_ald0 dX7_place_21 ?_
    refine v_getI dX7_place_22 fl_X7_36 (by first | rfl | exact lay_door (by omega) | exact lay_dt (by omega) | exact lay_da (by omega) | exact lay_sh (by omega) | exact lay_se (by omega)) rfl (by omega) ?_
    refine v_ild1 dX7_place_25 ?_
    refine v_ishr dX7_place_26 ?_
    refine v_icN (n := 1) dX7_place_27 (by decide) ?_
    refine v_iand dX7_place_28 ?_
    refine v_if_ne (tgt := 41) dX7_place_29 (by decide) (fun h29 => ?_) (fun h29 => ?_)
    · refine v_icN (n := 0) dX7_place_41 (by decide) ?_
      refine v_ist3 dX7_place_42 rfl ?_
      rw [plI, if_pos h5, if_pos h29]
      exact lp_pl hm hn hI (min (n + 1) 6) 0 (by omega)
    · refine v_ald0 dX7_place_32 ?_
      refine v_ild1 dX7_place_33 ?_
      refine v_icN (n := 1) dX7_place_34 (by decide) ?_
      refine v_iadd dX7_place_35 ?_
      refine v_ild2 dX7_place_36 ?_
      refine v_e1 (congrArg Value.int (show _ = nI (6 - m) by rw [nI_add, show 5 - m + 1 = 6 - m by omega])) ?_
      refine v_S3n (hI _ n hn) lk_X7_49 dX7_place_37 (by omega) (Nat.le_of_ble_eq_true rfl) ?_
      exact v_retV dX7_place_40 trivial (by rw [plI, if_pos h5, if_neg (fun z => z h29)]; exact ⟨rfl, rfl⟩)
  · exact v_retV dX7_place_8 trivial (by rw [plI, if_neg h5]; exact ⟨rfl, rfl⟩)

theorem c_X7_place {G : GG} {dc : Nat} {L : Nat → Nat → Int64} : ∀ (m : Nat), m ≤ 6 → ∀ (I : Nat → Nat → Int32) (n : Nat), n ≤ 6 → Cn G yX7_place cX7_place 4 none (4 + m) 0 0 [.ref 8, .int (nI (6 - m)), .int (nI n)] (Mm dc I L) (Is none (Mm dc (plI m I n) L))
  | 0, _, I, n, hn => c_pl0 hn
  | m + 1, hm, I, n, hn => by
    have h := c_plS (G := G) (dc := dc) (L := L) (m := m) (n := n) (I := I) (by omega) hn (fun I k hk => c_X7_place m (by omega) I k hk)
    rw [show 6 - (m + 1) = 5 - m by omega]
    exact h

def ptJ (I : Nat → Nat → Int32) (v : Int32) : Nat → Nat → Int32 := plI 6 (fl2 (fl2 (u2 (u2 (u2 I 8 7 v) 8 8 (nI 7)) 8 9 (nI 0)) 13 6 (-1)) 12 6 (nI 0)) 0
def ptI (I : Nat → Nat → Int32) (v : Int32) : Nat → Nat → Int32 := if ptJ I v 8 8 ≤ nI 6 then cp2 (ptJ I v) 14 11 0 0 6 else ptJ I v
def ptR (I : Nat → Nat → Int32) (v : Int32) : Int32 := if ptJ I v 8 8 ≤ nI 6 then ptJ I v 8 8 else -1
theorem cp2_o {α : Type} (f : Nat → Nat → α) {a0 a i j k x : Nat} (q : Nat) (h : x ≠ a) : cp2 f a0 a i j k x q = f x q := if_neg (fun z => h z.1)

set_option maxRecDepth 4000 in
theorem c_X7_part {G : GG} {dc : Nat} {I : Nat → Nat → Int32} {L : Nat → Nat → Int64} {v : Int32} : Cn G yX7_part cX7_part 2 (some .int) 11 0 0 [.ref 8, .int v] (Mm dc I L) (Is (some (.int (ptR I v))) (Mm dc (ptI I v) L)) := by
  refine Cn.of' (by decide) (Nat.le_of_ble_eq_true rfl) rfl ?_
  refine v_ald0 dX7_part_0 ?_
  refine v_ild1 dX7_part_1 ?_
  refine v_putI dX7_part_2 fl_X7_40 ft_7_7 (by first | rfl | exact lay_door (by omega) | exact lay_dt (by omega) | exact lay_da (by omega) | exact lay_sh (by omega) | exact lay_se (by omega)) rfl (by omega) ?_
  refine v_ald0 dX7_part_5 ?_
  refine v_bipush (v := nI 7) dX7_part_6 (by decide) ?_
  refine v_putI dX7_part_8 fl_X7_43 ft_7_8 (by first | rfl | exact lay_door (by omega) | exact lay_dt (by omega) | exact lay_da (by omega) | exact lay_sh (by omega) | exact lay_se (by omega)) rfl (by omega) ?_
  refine v_ald0 dX7_part_11 ?_
  refine v_icN (n := 0) dX7_part_12 (by decide) ?_
  refine v_putI dX7_part_13 fl_X7_46 ft_7_9 (by first | rfl | exact lay_door (by omega) | exact lay_dt (by omega) | exact lay_da (by omega) | exact lay_sh (by omega) | exact lay_se (by omega)) rfl (by omega) ?_
  refine v_ald0 dX7_part_16 ?_
  refine v_getP (q := 13) dX7_part_17 fl_X7_24 (by first | rfl | exact lay_door (by omega) | exact lay_dt (by omega) | exact lay_da (by omega) | exact lay_sh (by omega) | exact lay_se (by omega)) rfl (by omega) rfl ?_
  refine v_icm1 dX7_part_20 ?_
  refine v_S2n (c_J7_fill_53178 rfl (by decide) (by omega)) lk_X7_30 dX7_part_21 (by decide) (Nat.le_of_ble_eq_true rfl) ?_
  refine v_ald0 dX7_part_24 ?_
  refine v_getP (q := 12) dX7_part_25 fl_X7_21 (by first | rfl | exact lay_door (by omega) | exact lay_dt (by omega) | exact lay_da (by omega) | exact lay_sh (by omega) | exact lay_se (by omega)) rfl (by omega) rfl ?_
  refine v_icN (n := 0) dX7_part_28 (by decide) ?_
  refine v_S2n (c_J7_fill_53178 rfl (by decide) (by omega)) lk_X7_30 dX7_part_29 (by decide) (Nat.le_of_ble_eq_true rfl) ?_
  refine v_ald0 dX7_part_32 ?_
  refine v_icN (n := 0) dX7_part_33 (by decide) ?_
  refine v_icN (n := 0) dX7_part_34 (by decide) ?_
  refine v_S3n (c_X7_place 6 (by decide) _ 0 (by decide)) lk_X7_49 dX7_part_35 (by decide) (Nat.le_of_ble_eq_true rfl) ?_
  refine v_ald0 dX7_part_38 ?_
  refine v_getI dX7_part_39 fl_X7_43 (by first | rfl | exact lay_door (by omega) | exact lay_dt (by omega) | exact lay_da (by omega) | exact lay_sh (by omega) | exact lay_se (by omega)) rfl (by omega) ?_
  refine v_bipush (v := nI 6) dX7_part_42 (by decide) ?_
  generalize hJ : plI 6 (fl2 (fl2 (u2 (u2 (u2 I 8 7 v) 8 8 (nI 7)) 8 9 (nI 0)) 13 6 (-1)) 12 6 (nI 0)) 0 = J
  have hJ2 : ptJ I v = J := hJ
  refine v_icmp_le (tgt := 49) dX7_part_44 (by decide) (fun h44 => ?_) (fun h44 => ?_)
  · refine v_ald0 dX7_part_49 ?_
    refine v_getP (q := 14) dX7_part_50 fl_X7_27 (by first | rfl | exact lay_door (by omega) | exact lay_dt (by omega) | exact lay_da (by omega) | exact lay_sh (by omega) | exact lay_se (by omega)) rfl (by omega) rfl ?_
    refine v_icN (n := 0) dX7_part_53 (by decide) ?_
    refine v_ald0 dX7_part_54 ?_
    refine v_getP (q := 11) dX7_part_55 fl_X7_18 (by first | rfl | exact lay_door (by omega) | exact lay_dt (by omega) | exact lay_da (by omega) | exact lay_sh (by omega) | exact lay_se (by omega)) rfl (by omega) rfl ?_
    refine v_icN (n := 0) dX7_part_58 (by decide) ?_
    refine v_bipush (v := nI 6) dX7_part_59 (by decide) ?_
    refine v_copyI dX7_part_61 lj_X7_53 (by decide) (Nat.le_of_ble_eq_true rfl) rfl rfl (by omega) (by omega) (i := 0) (j := 0) (k0 := 6) rfl rfl rfl (by decide) (by decide) (by decide) (by decide) ?_
    refine v_ald0 dX7_part_64 ?_
    refine v_getI dX7_part_65 fl_X7_43 (by first | rfl | exact lay_door (by omega) | exact lay_dt (by omega) | exact lay_da (by omega) | exact lay_sh (by omega) | exact lay_se (by omega)) rfl (by omega) ?_
    exact v_retI dX7_part_68 trivial (by rw [ptR, ptI, hJ2, if_pos h44, if_pos h44]; try rw [cp2_o _ _ (by decide)]; exact ⟨rfl, rfl⟩)
  · refine v_icm1 dX7_part_47 ?_
    exact v_retI dX7_part_48 trivial (by rw [ptR, ptI, hJ2, if_neg h44, if_neg h44]; exact ⟨rfl, rfl⟩)

/-- the work of the blocks, from the doors below n -/
def cwM (I : Nat → Nat → Int32) : Nat → Nat → Nat → Int32
  | 0 => fl2 (u2 I 8 6 (nI 0)) 10 6 (nI 0)
  | d + 1 => adI (cwM I d) (tn (I (78 + 3 * d) 0)) (bI (tba I d))
theorem adI_o (I : Nat → Nat → Int32) (b : Nat) (w : Int32) {x : Nat} (j : Nat) (h1 : x ≠ 8) (h2 : x ≠ 10) : adI I b w x j = I x j := by
  unfold adI
  split
  · exact u2_a _ _ _ _ h1
  · rw [u2_a _ _ _ _ h2, u2_a _ _ _ _ h1]
theorem cw_o (I : Nat → Nat → Int32) {x : Nat} (j : Nat) (h1 : x ≠ 8) (h2 : x ≠ 10) : ∀ n, cwM I n x j = I x j
  | 0 => by
    show fl2 _ _ _ _ _ _ = _
    rw [show fl2 (u2 I 8 6 (nI 0)) 10 6 (nI 0) x j = u2 I 8 6 (nI 0) x j from if_neg (fun q => h2 q.1), u2_a _ _ _ _ h1]
  | n + 1 => by rw [cwM, adI_o _ _ _ _ h1 h2]; exact cw_o I j h1 h2 n
def dCut (v : Int32) : Nat := if v < 0 then 6 else (if v ≤ nI 24 then 0 else 6)
def cuI (dc : Nat) (I : Nat → Nat → Int32) (v : Int32) : Nat → Nat → Int32 := if ptR (cwM I dc) v = -1 then rfs (ptI (cwM I dc) v) 6 else ptI (cwM I dc) v
def cuR (dc : Nat) (I : Nat → Nat → Int32) (v : Int32) : Int32 := if ptR (cwM I dc) v = -1 then -6 else ptR (cwM I dc) v

theorem tba_cw (I : Nat → Nat → Int32) (n d : Nat) : tba (cwM I n) d ↔ tba I d := by
  unfold tba
  rw [cw_o I 6 (by omega) (by omega), cw_o I 7 (by omega) (by omega)]
theorem bI_iff {a b : Prop} [Decidable a] [Decidable b] (h : a ↔ b) : bI a = bI b := by
  unfold bI
  by_cases ha : a
  · rw [if_pos ha, if_pos (h.mp ha)]
  · rw [if_neg ha, if_neg (fun q => ha (h.mpr q))]

set_option maxRecDepth 4000 in
theorem lp_cut {G : GG} {dc : Nat} {I : Nat → Nat → Int32} {L : Nat → Nat → Int64} {v : Int32} (hW : Wx dc I) (k : Nat) : ∀ i, i + k = dc → V G yX8_cut cX8_cut 3 (some .int) 12 0 0 26 [.ref 0, .int v, .int (nI i)] [] (Mm dc (cwM I i) L) (Is (some (.int (cuR dc I v))) (Mm dc (cuI dc I v) L)) := by
  induction k with
  | zero =>
    intro i hi
    have hc9 := hW.1
    have h24 : i ≤ dc := by omega
    refine v_ild2 dX8_cut_26 ?_
    refine v_ald0 dX8_cut_27 ?_
    refine v_getI dX8_cut_28 fl_X8_69 (by first | rfl | exact lay_door (by omega) | exact lay_dt (by omega) | exact lay_da (by omega) | exact lay_sh (by omega) | exact lay_se (by omega)) rfl (by omega) ?_
    refine v_icmp_ge (tgt := 65) dX8_cut_31 (by decide) (fun h31 => ?_) (fun h31 => absurd (by rw [cw_o I 7 (by decide) (by decide), hW.2.1]; exact nI_le (by omega) (by omega)) h31)
    obtain rfl : i = dc := by omega
    refine v_ald0 dX8_cut_65 ?_
    refine v_getP (q := 8) dX8_cut_66 fl_X8_42 (by first | rfl | exact lay_door (by omega) | exact lay_dt (by omega) | exact lay_da (by omega) | exact lay_sh (by omega) | exact lay_se (by omega)) rfl (by omega) rfl ?_
    refine v_ild1 dX8_cut_69 ?_
    refine v_V1 c_X7_part lk_X8_228 dX8_cut_70 (by decide) (Nat.le_of_ble_eq_true rfl) (by first | rfl | exact lay_door (by omega) | exact lay_dt (by omega) | exact lay_da (by omega) | exact lay_sh (by omega) | exact lay_se (by omega)) (show _ < 78 + 3 * _ by omega) ?_
    refine v_ist2 dX8_cut_73 rfl ?_
    refine v_ild2 dX8_cut_74 ?_
    refine v_icm1 dX8_cut_75 ?_
    refine v_icmp_ne (tgt := 88) dX8_cut_76 (by decide) (fun h76 => ?_) (fun h76 => ?_)
    · refine v_ild2 dX8_cut_88 ?_
      exact v_retI dX8_cut_89 trivial (by rw [cuR, cuI, if_neg h76, if_neg h76]; exact ⟨rfl, rfl⟩)
    · refine v_ald0 dX8_cut_79 ?_
      refine v_bipush (v := -6) dX8_cut_80 (by decide) ?_
      refine v_V1 (c_X8_refuse (k := 6) (by decide) (by decide) (by decide)) lk_X8_58 dX8_cut_82 (by decide) (Nat.le_of_ble_eq_true rfl) (by first | rfl | exact lay_door (by omega) | exact lay_dt (by omega) | exact lay_da (by omega) | exact lay_sh (by omega) | exact lay_se (by omega)) (show _ < 78 + 3 * _ by omega) ?_
      refine v_goto (tgt := 89) dX8_cut_85 (by decide) ?_
      exact v_retI dX8_cut_89 trivial (by rw [cuR, cuI, if_pos h76, if_pos h76]; exact ⟨rfl, rfl⟩)
  | succ k ih =>
    intro i hi
    have hc9 := hW.1
    have h24 : i ≤ dc := by omega
    refine v_ild2 dX8_cut_26 ?_
    refine v_ald0 dX8_cut_27 ?_
    refine v_getI dX8_cut_28 fl_X8_69 (by first | rfl | exact lay_door (by omega) | exact lay_dt (by omega) | exact lay_da (by omega) | exact lay_sh (by omega) | exact lay_se (by omega)) rfl (by omega) ?_
    refine v_icmp_ge (tgt := 65) dX8_cut_31 (by decide) (fun h31 => absurd h31 (by rw [cw_o I 7 (by decide) (by decide), hW.2.1]; exact nI_ge (by omega) (by omega))) (fun h31 => ?_)
    refine v_ald0 dX8_cut_34 ?_
    refine v_getP (q := 8) dX8_cut_35 fl_X8_42 (by first | rfl | exact lay_door (by omega) | exact lay_dt (by omega) | exact lay_da (by omega) | exact lay_sh (by omega) | exact lay_se (by omega)) rfl (by omega) rfl ?_
    refine v_ald0 dX8_cut_38 ?_
    refine v_getP (q := 2) dX8_cut_39 fl_X8_17 (by first | rfl | exact lay_door (by omega) | exact lay_dt (by omega) | exact lay_da (by omega) | exact lay_sh (by omega) | exact lay_se (by omega)) rfl (by omega) rfl ?_
    refine v_ild2 dX8_cut_42 ?_
    refine v_aald13 dX8_cut_43 (by first | rfl | exact lay_door (by omega) | exact lay_dt (by omega) | exact lay_da (by omega) | exact lay_sh (by omega) | exact lay_se (by omega)) (by omega) ⟨rfl, by omega, by decide⟩ (Pc_d (by omega)) ?_
    refine v_getI dX8_cut_44 fl_X8_143 (by first | rfl | exact lay_door (by omega) | exact lay_dt (by omega) | exact lay_da (by omega) | exact lay_sh (by omega) | exact lay_se (by omega)) rfl (by omega) ?_
    refine v_ald0 dX8_cut_47 ?_
    refine v_getP (q := 2) dX8_cut_48 fl_X8_17 (by first | rfl | exact lay_door (by omega) | exact lay_dt (by omega) | exact lay_da (by omega) | exact lay_sh (by omega) | exact lay_se (by omega)) rfl (by omega) rfl ?_
    refine v_ild2 dX8_cut_51 ?_
    refine v_aald13 dX8_cut_52 (by first | rfl | exact lay_door (by omega) | exact lay_dt (by omega) | exact lay_da (by omega) | exact lay_sh (by omega) | exact lay_se (by omega)) (by omega) ⟨rfl, by omega, by decide⟩ (Pc_d (by omega)) ?_
    refine v_V0 (c_X1_isToBeAsked (by omega) hc9) lk_X8_160 dX8_cut_53 (by decide) (Nat.le_of_ble_eq_true rfl) (by first | rfl | exact lay_door (by omega) | exact lay_dt (by omega) | exact lay_da (by omega) | exact lay_sh (by omega) | exact lay_se (by omega)) (show _ < 78 + 3 * _ by omega) ?_
    refine v_e0 (congrArg Value.int (bI_iff (tba_cw I i i))) ?_
    refine v_e1 (congrArg Value.int ((cw_o I 0 (by omega) (by omega) i).trans (hW.2.2.2 i (by omega)).1.1)) ?_
    refine v_V2n (c_X7_addDoor (b := tn (I (78 + 3 * i) 0)) (by have := (hW.2.2.2 i (by omega)).1.2; omega)) lk_X8_224 dX8_cut_56 (by decide) (Nat.le_of_ble_eq_true rfl) (by first | rfl | exact lay_door (by omega) | exact lay_dt (by omega) | exact lay_da (by omega) | exact lay_sh (by omega) | exact lay_se (by omega)) (show _ < 78 + 3 * _ by omega) ?_
    refine v_inc2 dX8_cut_59 rfl ?_
    refine v_goto (tgt := 26) dX8_cut_62 (by decide) ?_
    rw [nI_1 i]
    exact ih (i + 1) (by omega)

set_option maxRecDepth 4000 in
theorem c_X8_cut {G : GG} {dc : Nat} {I : Nat → Nat → Int32} {L : Nat → Nat → Int64} {v : Int32} (hW : Wx dc I) : Cn G yX8_cut cX8_cut 3 (some .int) 12 0 0 [.ref 0, .int v] (Mm dc I L) (Is (some (.int (oR (dCut v) (cuR dc I v)))) (oM (dCut v) dc I L (Mm dc (cuI dc I v) L))) := by
  refine Cn.of' (by decide) (Nat.le_of_ble_eq_true rfl) rfl ?_
  refine v_ild1 dX8_cut_0 ?_
  refine v_if_lt (tgt := 10) dX8_cut_1 (by decide) (fun h1 => ?_) (fun h1 => ?_)
  · refine v_ald0 dX8_cut_10 ?_
    refine v_bipush (v := -6) dX8_cut_11 (by decide) ?_
    refine v_V1 (c_X8_refuse (k := 6) (by decide) (by decide) (by decide)) lk_X8_58 dX8_cut_13 (by decide) (Nat.le_of_ble_eq_true rfl) (by first | rfl | exact lay_door (by omega) | exact lay_dt (by omega) | exact lay_da (by omega) | exact lay_sh (by omega) | exact lay_se (by omega)) (show _ < 78 + 3 * _ by omega) ?_
    exact v_retI dX8_cut_16 trivial (by simp only [dCut, if_pos h1]; exact ⟨rfl, rfl⟩)
  · refine v_ild1 dX8_cut_4 ?_
    refine v_bipush (v := nI 24) dX8_cut_5 (by decide) ?_
    refine v_icmp_le (tgt := 17) dX8_cut_7 (by decide) (fun h7 => ?_) (fun h7 => ?_)
    · refine v_ald0 dX8_cut_17 ?_
      refine v_getP (q := 8) dX8_cut_18 fl_X8_42 (by first | rfl | exact lay_door (by omega) | exact lay_dt (by omega) | exact lay_da (by omega) | exact lay_sh (by omega) | exact lay_se (by omega)) rfl (by omega) rfl ?_
      refine v_V0n c_X7_clearWork lk_X8_221 dX8_cut_21 (by decide) (Nat.le_of_ble_eq_true rfl) (by first | rfl | exact lay_door (by omega) | exact lay_dt (by omega) | exact lay_da (by omega) | exact lay_sh (by omega) | exact lay_se (by omega)) (show _ < 78 + 3 * _ by omega) ?_
      refine v_icN (n := 0) dX8_cut_24 (by decide) ?_
      refine v_ist2 dX8_cut_25 rfl ?_
      simp only [dCut, if_neg h1, if_pos h7]
      rw [oR0, oM0]
      exact lp_cut hW dc 0 (by omega)
    · refine v_ald0 dX8_cut_10 ?_
      refine v_bipush (v := -6) dX8_cut_11 (by decide) ?_
      refine v_V1 (c_X8_refuse (k := 6) (by decide) (by decide) (by decide)) lk_X8_58 dX8_cut_13 (by decide) (Nat.le_of_ble_eq_true rfl) (by first | rfl | exact lay_door (by omega) | exact lay_dt (by omega) | exact lay_da (by omega) | exact lay_sh (by omega) | exact lay_se (by omega)) (show _ < 78 + 3 * _ by omega) ?_
      exact v_retI dX8_cut_16 trivial (by simp only [dCut, if_neg h1, if_neg h7]; exact ⟨rfl, rfl⟩)
