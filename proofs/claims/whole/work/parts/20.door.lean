theorem u2_s {α : Type} (f : Nat → Nat → α) (a k : Nat) (v : α) : u2 f a k v a k = v := if_pos ⟨rfl, rfl⟩
theorem u2_a {α : Type} (f : Nat → Nat → α) {a x : Nat} (k j : Nat) (v : α) (h : x ≠ a) : u2 f a k v x j = f x j := if_neg (fun q => h q.1)
theorem u2_k {α : Type} (f : Nat → Nat → α) (a x : Nat) {k j : Nat} (v : α) (h : j ≠ k) : u2 f a k v x j = f x j := if_neg (fun q => h q.2)
/-- the first m places of row a hold v -/
def fl2 {α : Type} (f : Nat → Nat → α) (a m : Nat) (v : α) : Nat → Nat → α := fun x j => if x = a ∧ j < m then v else f x j
theorem fl2_0 {α : Type} (f : Nat → Nat → α) (a : Nat) (v : α) : fl2 f a 0 v = f := by
  funext x j
  exact if_neg (fun q => by omega)
theorem fl2_s {α : Type} (f : Nat → Nat → α) (a m : Nat) (v : α) : u2 (fl2 f a m v) a m v = fl2 f a (m + 1) v := by
  funext x j
  simp only [u2, fl2]
  by_cases h1 : x = a
  · by_cases h2 : j = m
    · rw [if_pos ⟨h1, h2⟩, if_pos ⟨h1, by omega⟩]
    · rw [if_neg (fun q => h2 q.2)]
      by_cases h3 : j < m
      · rw [if_pos ⟨h1, h3⟩, if_pos ⟨h1, by omega⟩]
      · rw [if_neg (fun q => h3 q.2), if_neg (fun q => by omega)]
  · rw [if_neg (fun q => h1 q.1), if_neg (fun q => h1 q.1), if_neg (fun q => h1 q.1)]

theorem lp_fillI {G : GG} {n a N : Nat} {I : Nat → Nat → Int32} {L : Nat → Nat → Int64} {P : Nat → Nat → Option Nat} {v : Int32} (ha : lay a = (10, N)) (hN : N < 2 ^ 31) (hn : a < n) (k : Nat) : ∀ i, i + k = N → V G yJ7_fill_53178 cJ7_fill_53178 4 none 0 0 0 5 [.ref a, .int v, .int (nI i), .int (nI N)] [] (n, fl2 I a i v, L, P) (Is none (n, fl2 I a N v, L, P)) := by
  induction k with
  | zero =>
    intro i hi
    refine v_ild2 dJ7_fill_53178_5 ?_
    refine v_ild3 dJ7_fill_53178_6 ?_
    refine v_icmp_ge (tgt := 20) dJ7_fill_53178_7 (by decide) (fun h => ?_) (fun h => absurd (nI_le (by omega) (by omega)) h)
    exact v_retV dJ7_fill_53178_20 trivial (by rw [show i = N by omega]; exact ⟨rfl, rfl⟩)
  | succ k ih =>
    intro i hi
    refine v_ild2 dJ7_fill_53178_5 ?_
    refine v_ild3 dJ7_fill_53178_6 ?_
    refine v_icmp_ge (tgt := 20) dJ7_fill_53178_7 (by decide) (fun h => absurd h (nI_ge (by omega) hN)) (fun h => ?_)
    refine v_ald0 dJ7_fill_53178_10 ?_
    refine v_ild2 dJ7_fill_53178_11 ?_
    refine v_ild1 dJ7_fill_53178_12 ?_
    refine v_iast dJ7_fill_53178_13 ha hn ⟨rfl, by omega, by omega⟩ ?_
    refine v_inc2 dJ7_fill_53178_14 rfl ?_
    refine v_goto (tgt := 5) dJ7_fill_53178_17 (by decide) ?_
    have e9 := fl2_s I a i v
    rw [e9, show nI i + 1 = nI (i + 1) from nI_1 i]
    exact ih (i + 1) (by omega)

set_option maxRecDepth 4000 in
theorem c_J7_fill_53178 {G : GG} {n a N : Nat} {I : Nat → Nat → Int32} {L : Nat → Nat → Int64} {P : Nat → Nat → Option Nat} {v : Int32} (ha : lay a = (10, N)) (hN : N < 2 ^ 31) (hn : a < n) : Cn G yJ7_fill_53178 cJ7_fill_53178 4 none 0 0 0 [.ref a, .int v] (n, I, L, P) (Is none (n, fl2 I a N v, L, P)) := by
  refine Cn.of' (by decide) (Nat.le_of_ble_eq_true rfl) rfl ?_
  refine v_icN (n := 0) dJ7_fill_53178_0 (by decide) ?_
  refine v_ist2 dJ7_fill_53178_1 rfl ?_
  refine v_ald0 dJ7_fill_53178_2 ?_
  refine v_alen (Or.inl rfl) dJ7_fill_53178_3 ha hn rfl ?_
  refine v_ist3 dJ7_fill_53178_4 rfl ?_
  have h9 := lp_fillI (G := G) (I := I) (L := L) (P := P) (v := v) ha hN hn N 0 (by omega)
  rw [fl2_0] at h9
  exact h9

theorem lp_fillL {G : GG} {n a N : Nat} {I : Nat → Nat → Int32} {L : Nat → Nat → Int64} {P : Nat → Nat → Option Nat} {v : Int64} (ha : lay a = (11, N)) (hN : N < 2 ^ 31) (hn : a < n) (k : Nat) : ∀ i, i + k = N → V G yJ7_fill_d0a16 cJ7_fill_d0a16 5 none 0 0 0 6 [.ref a, .long v, UU, .int (nI i), .int (nI N)] [] (n, I, fl2 L a i v, P) (Is none (n, I, fl2 L a N v, P)) := by
  induction k with
  | zero =>
    intro i hi
    refine v_ild3 dJ7_fill_d0a16_6 ?_
    refine v_ild4 dJ7_fill_d0a16_7 ?_
    refine v_icmp_ge (tgt := 22) dJ7_fill_d0a16_9 (by decide) (fun h => ?_) (fun h => absurd (nI_le (by omega) (by omega)) h)
    exact v_retV dJ7_fill_d0a16_22 trivial (by rw [show i = N by omega]; exact ⟨rfl, rfl⟩)
  | succ k ih =>
    intro i hi
    refine v_ild3 dJ7_fill_d0a16_6 ?_
    refine v_ild4 dJ7_fill_d0a16_7 ?_
    refine v_icmp_ge (tgt := 22) dJ7_fill_d0a16_9 (by decide) (fun h => absurd h (nI_ge (by omega) hN)) (fun h => ?_)
    refine v_ald0 dJ7_fill_d0a16_12 ?_
    refine v_ild3 dJ7_fill_d0a16_13 ?_
    refine v_lld1 dJ7_fill_d0a16_14 ?_
    refine v_last dJ7_fill_d0a16_15 ha hn ⟨rfl, by omega, by omega⟩ ?_
    refine v_inc3 dJ7_fill_d0a16_16 rfl ?_
    refine v_goto (tgt := 6) dJ7_fill_d0a16_19 (by decide) ?_
    have e9 := fl2_s L a i v
    rw [e9, show nI i + 1 = nI (i + 1) from nI_1 i]
    exact ih (i + 1) (by omega)

set_option maxRecDepth 4000 in
theorem c_J7_fill_d0a16 {G : GG} {n a N : Nat} {I : Nat → Nat → Int32} {L : Nat → Nat → Int64} {P : Nat → Nat → Option Nat} {v : Int64} (ha : lay a = (11, N)) (hN : N < 2 ^ 31) (hn : a < n) : Cn G yJ7_fill_d0a16 cJ7_fill_d0a16 5 none 0 0 0 [.ref a, .long v] (n, I, L, P) (Is none (n, I, fl2 L a N v, P)) := by
  refine Cn.of' (by decide) (Nat.le_of_ble_eq_true rfl) rfl ?_
  refine v_icN (n := 0) dJ7_fill_d0a16_0 (by decide) ?_
  refine v_ist3 dJ7_fill_d0a16_1 rfl ?_
  refine v_ald0 dJ7_fill_d0a16_2 ?_
  refine v_alen (Or.inr rfl) dJ7_fill_d0a16_3 ha hn rfl ?_
  refine v_ist4 dJ7_fill_d0a16_4 rfl ?_
  have h9 := lp_fillL (G := G) (I := I) (L := L) (P := P) (v := v) ha hN hn N 0 (by omega)
  rw [fl2_0] at h9
  exact h9

set_option maxRecDepth 4000 in
theorem c_X4_putRow {G : GG} {dc : Nat} {I : Nat → Nat → Int32} {L : Nat → Nat → Int64} {s : Nat} {t z : Int32} (hs : s < 8) : Cn G yX4_putRow cX4_putRow 3 none 1 0 0 [.ref (23 + 2 * s), .int t, .int z] (Mm dc I L) (Is none (Mm dc (u2 (u2 (u2 (u2 (u2 I (23 + 2 * s) 1 (-1)) (23 + 2 * s) 2 (nI 0)) (23 + 2 * s) 3 (-1)) (23 + 2 * s) 1 t) (23 + 2 * s) 2 z) (fl2 L (23 + 2 * s + 1) 30 (lN 0)))) := by
  refine Cn.of' (by decide) (Nat.le_of_ble_eq_true rfl) rfl ?_
  refine v_ald0 dX4_putRow_0 ?_
  refine v_V0n (c_X4_putNothing hs) lk_X4_25 dX4_putRow_1 (by decide) (Nat.le_of_ble_eq_true rfl) (by first | rfl | exact lay_door (by omega) | exact lay_dt (by omega) | exact lay_da (by omega) | exact lay_sh (by omega) | exact lay_se (by omega)) (show _ < 78 + 3 * _ by omega) ?_
  refine v_ald0 dX4_putRow_4 ?_
  refine v_ild1 dX4_putRow_5 ?_
  refine v_putI dX4_putRow_6 fl_X4_15 ft_4_1 (by first | rfl | exact lay_door (by omega) | exact lay_dt (by omega) | exact lay_da (by omega) | exact lay_sh (by omega) | exact lay_se (by omega)) rfl (by omega) ?_
  refine v_ald0 dX4_putRow_9 ?_
  refine v_ild2 dX4_putRow_10 ?_
  refine v_putI dX4_putRow_11 fl_X4_22 ft_4_2 (by first | rfl | exact lay_door (by omega) | exact lay_dt (by omega) | exact lay_da (by omega) | exact lay_sh (by omega) | exact lay_se (by omega)) rfl (by omega) ?_
  refine v_ald0 dX4_putRow_14 ?_
  refine v_getP dX4_putRow_15 fl_X4_11 (by first | rfl | exact lay_door (by omega) | exact lay_dt (by omega) | exact lay_da (by omega) | exact lay_sh (by omega) | exact lay_se (by omega)) rfl (by omega) (by first | rfl | exact Pc_d (by omega) | exact Pc_dt (by omega) | exact Pc_da (by omega) | exact Pc_s (by omega) | exact Pc_se (by omega)) ?_
  refine v_lcN0 dX4_putRow_18 ?_
  refine v_S2n (c_J7_fill_d0a16 (lay_se hs) (by decide) (by omega)) lk_X4_28 dX4_putRow_19 (by decide) (Nat.le_of_ble_eq_true rfl) ?_
  exact v_retV dX4_putRow_22 trivial ⟨rfl, rfl⟩

abbrev tba (I : Nat → Nat → Int32) (d : Nat) : Prop := I (78 + 3 * d) 6 = 0 ∨ I (78 + 3 * d) 6 = nI 3 ∨ ¬ I (78 + 3 * d) 7 = 0

set_option maxRecDepth 4000 in
theorem c_X1_isToBeAsked {G : GG} {dc : Nat} {I : Nat → Nat → Int32} {L : Nat → Nat → Int64} {d : Nat} (hd : d < dc) (hdc : dc ≤ 24) : Cn G yX1_isToBeAsked cX1_isToBeAsked 1 (some .boolean) 0 0 0 [.ref (78 + 3 * d)] (Mm dc I L) (Is (some (.int (bI (tba I d)))) (Mm dc I L)) := by
  refine Cn.of' (by decide) (Nat.le_of_ble_eq_true rfl) rfl ?_
  refine v_ald0 dX1_isToBeAsked_0 ?_
  refine v_getI dX1_isToBeAsked_1 fl_X1_18 (by first | rfl | exact lay_door (by omega) | exact lay_dt (by omega) | exact lay_da (by omega) | exact lay_sh (by omega) | exact lay_se (by omega)) rfl (by omega) ?_
  refine v_if_eq (tgt := 22) dX1_isToBeAsked_4 (by decide) (fun h4 => ?_) (fun h4 => ?_)
  · refine v_icN (n := 1) dX1_isToBeAsked_22 (by decide) ?_
    refine v_goto (tgt := 27) dX1_isToBeAsked_23 (by decide) ?_
    exact v_retI dX1_isToBeAsked_27 (by first | exact Or.inl rfl | exact Or.inr rfl | exact bI_01) (by refine ⟨?_, rfl⟩; simp [bI, tba, *])
  · refine v_ald0 dX1_isToBeAsked_7 ?_
    refine v_getI dX1_isToBeAsked_8 fl_X1_18 (by first | rfl | exact lay_door (by omega) | exact lay_dt (by omega) | exact lay_da (by omega) | exact lay_sh (by omega) | exact lay_se (by omega)) rfl (by omega) ?_
    refine v_icN (n := 3) dX1_isToBeAsked_11 (by decide) ?_
    refine v_icmp_eq (tgt := 22) dX1_isToBeAsked_12 (by decide) (fun h12 => ?_) (fun h12 => ?_)
    · refine v_icN (n := 1) dX1_isToBeAsked_22 (by decide) ?_
      refine v_goto (tgt := 27) dX1_isToBeAsked_23 (by decide) ?_
      exact v_retI dX1_isToBeAsked_27 (by first | exact Or.inl rfl | exact Or.inr rfl | exact bI_01) (by refine ⟨?_, rfl⟩; simp [bI, tba, *])
    · refine v_ald0 dX1_isToBeAsked_15 ?_
      refine v_getI dX1_isToBeAsked_16 fl_X1_55 (by first | rfl | exact lay_door (by omega) | exact lay_dt (by omega) | exact lay_da (by omega) | exact lay_sh (by omega) | exact lay_se (by omega)) rfl (by omega) ?_
      refine v_if_eq (tgt := 26) dX1_isToBeAsked_19 (by decide) (fun h19 => ?_) (fun h19 => ?_)
      · refine v_icN (n := 0) dX1_isToBeAsked_26 (by decide) ?_
        exact v_retI dX1_isToBeAsked_27 (by first | exact Or.inl rfl | exact Or.inr rfl | exact bI_01) (by refine ⟨?_, rfl⟩; simp [bI, tba, *])
      · refine v_icN (n := 1) dX1_isToBeAsked_22 (by decide) ?_
        refine v_goto (tgt := 27) dX1_isToBeAsked_23 (by decide) ?_
        exact v_retI dX1_isToBeAsked_27 (by first | exact Or.inl rfl | exact Or.inr rfl | exact bI_01) (by refine ⟨?_, rfl⟩; simp [bI, tba, *])

def sR (I : Nat → Nat → Int32) (d : Nat) (v : Int32) : Nat → Nat → Int32 := u2 (u2 (u2 (u2 I (78 + 3 * d) 6 v) (78 + 3 * d) 7 (nI 0)) (78 + 3 * d) 8 (nI 0)) (78 + 3 * d) 9 (nI 0)

set_option maxRecDepth 4000 in
theorem c_X1_startReturn {G : GG} {dc : Nat} {I : Nat → Nat → Int32} {L : Nat → Nat → Int64} {d : Nat} {v : Int32} (hd : d < dc) (hdc : dc ≤ 24) : Cn G yX1_startReturn cX1_startReturn 2 none 0 0 0 [.ref (78 + 3 * d), .int v] (Mm dc I L) (Is none (Mm dc (sR I d v) L)) := by
  refine Cn.of' (by decide) (Nat.le_of_ble_eq_true rfl) rfl ?_
  refine v_ald0 dX1_startReturn_0 ?_
  refine v_ild1 dX1_startReturn_1 ?_
  refine v_putI dX1_startReturn_2 fl_X1_18 ft_1_6 (by first | rfl | exact lay_door (by omega) | exact lay_dt (by omega) | exact lay_da (by omega) | exact lay_sh (by omega) | exact lay_se (by omega)) rfl (by omega) ?_
  refine v_ald0 dX1_startReturn_5 ?_
  refine v_icN (n := 0) dX1_startReturn_6 (by decide) ?_
  refine v_putZ dX1_startReturn_7 fl_X1_55 ft_1_7 (by first | rfl | exact lay_door (by omega) | exact lay_dt (by omega) | exact lay_da (by omega) | exact lay_sh (by omega) | exact lay_se (by omega)) rfl (by omega) (by first | exact Or.inl rfl | exact Or.inr rfl | exact bI_01) ?_
  refine v_ald0 dX1_startReturn_10 ?_
  refine v_icN (n := 0) dX1_startReturn_11 (by decide) ?_
  refine v_putI dX1_startReturn_12 fl_X1_59 ft_1_8 (by first | rfl | exact lay_door (by omega) | exact lay_dt (by omega) | exact lay_da (by omega) | exact lay_sh (by omega) | exact lay_se (by omega)) rfl (by omega) ?_
  refine v_ald0 dX1_startReturn_15 ?_
  refine v_icN (n := 0) dX1_startReturn_16 (by decide) ?_
  refine v_putI dX1_startReturn_17 fl_X1_62 ft_1_9 (by first | rfl | exact lay_door (by omega) | exact lay_dt (by omega) | exact lay_da (by omega) | exact lay_sh (by omega) | exact lay_se (by omega)) rfl (by omega) ?_
  exact v_retV dX1_startReturn_20 trivial ⟨rfl, rfl⟩

set_option maxRecDepth 4000 in
theorem c_X1_addHead {G : GG} {dc : Nat} {I : Nat → Nat → Int32} {L : Nat → Nat → Int64} {d : Nat} {v : Int32} {h : Nat} (hd : d < dc) (hdc : dc ≤ 24) (hh : I (78 + 3 * d) 8 = nI h) (h12 : h < 12) : Cn G yX1_addHead cX1_addHead 2 none 0 0 0 [.ref (78 + 3 * d), .int v] (Mm dc I L) (Is none (Mm dc (u2 (u2 I (78 + 3 * d + 2) h v) (78 + 3 * d) 8 (nI (h + 1))) L)) := by
  refine Cn.of' (by decide) (Nat.le_of_ble_eq_true rfl) rfl ?_
  refine v_ald0 dX1_addHead_0 ?_
  refine v_getI dX1_addHead_1 fl_X1_59 (by first | rfl | exact lay_door (by omega) | exact lay_dt (by omega) | exact lay_da (by omega) | exact lay_sh (by omega) | exact lay_se (by omega)) rfl (by omega) ?_
  refine v_bipush (v := nI 12) dX1_addHead_4 (by decide) ?_
  refine v_icmp_ge (tgt := 29) dX1_addHead_6 (by decide) (fun h6 => absurd (hh ▸ h6) (nI_ge h12 (by decide))) (fun h6 => ?_)
  refine v_ald0 dX1_addHead_9 ?_
  refine v_getP dX1_addHead_10 fl_X1_15 (by first | rfl | exact lay_door (by omega) | exact lay_dt (by omega) | exact lay_da (by omega) | exact lay_sh (by omega) | exact lay_se (by omega)) rfl (by omega) (by first | rfl | exact Pc_d (by omega) | exact Pc_dt (by omega) | exact Pc_da (by omega) | exact Pc_s (by omega) | exact Pc_se (by omega)) ?_
  refine v_ald0 dX1_addHead_13 ?_
  refine v_getI dX1_addHead_14 fl_X1_59 (by first | rfl | exact lay_door (by omega) | exact lay_dt (by omega) | exact lay_da (by omega) | exact lay_sh (by omega) | exact lay_se (by omega)) rfl (by omega) ?_
  refine v_ild1 dX1_addHead_17 ?_
  refine v_iast dX1_addHead_18 (by first | rfl | exact lay_door (by omega) | exact lay_dt (by omega) | exact lay_da (by omega) | exact lay_sh (by omega) | exact lay_se (by omega)) (by omega) ⟨hh, h12, by decide⟩ ?_
  refine v_ald0 dX1_addHead_19 ?_
  refine v_dupR dX1_addHead_20 ?_
  refine v_getI dX1_addHead_21 fl_X1_59 (by first | rfl | exact lay_door (by omega) | exact lay_dt (by omega) | exact lay_da (by omega) | exact lay_sh (by omega) | exact lay_se (by omega)) rfl (by omega) ?_
  refine v_icN (n := 1) dX1_addHead_24 (by decide) ?_
  refine v_iadd dX1_addHead_25 ?_
  refine v_putI dX1_addHead_26 fl_X1_59 ft_1_8 (by first | rfl | exact lay_door (by omega) | exact lay_dt (by omega) | exact lay_da (by omega) | exact lay_sh (by omega) | exact lay_se (by omega)) rfl (by omega) ?_
  exact v_retV dX1_addHead_29 trivial (by rw [u2_a _ _ _ _ (by omega), hh, nI_add]; exact ⟨rfl, rfl⟩)

set_option maxRecDepth 4000 in
theorem c_X1_hasHead {G : GG} {dc : Nat} {I : Nat → Nat → Int32} {L : Nat → Nat → Int64} {d : Nat} {i : Int32} (hd : d < dc) (hdc : dc ≤ 24) : Cn G yX1_hasHead cX1_hasHead 2 (some .boolean) 0 0 0 [.ref (78 + 3 * d), .int i] (Mm dc I L) (Is (some (.int (bI (¬ i < 0 ∧ ¬ I (78 + 3 * d) 8 ≤ i)))) (Mm dc I L)) := by
  refine Cn.of' (by decide) (Nat.le_of_ble_eq_true rfl) rfl ?_
  refine v_ild1 dX1_hasHead_0 ?_
  refine v_if_lt (tgt := 16) dX1_hasHead_1 (by decide) (fun h1 => ?_) (fun h1 => ?_)
  · refine v_icN (n := 0) dX1_hasHead_16 (by decide) ?_
    exact v_retI dX1_hasHead_17 (by first | exact Or.inl rfl | exact Or.inr rfl | exact bI_01) (by refine ⟨?_, rfl⟩; simp [bI, *])
  · refine v_ild1 dX1_hasHead_4 ?_
    refine v_ald0 dX1_hasHead_5 ?_
    refine v_getI dX1_hasHead_6 fl_X1_59 (by first | rfl | exact lay_door (by omega) | exact lay_dt (by omega) | exact lay_da (by omega) | exact lay_sh (by omega) | exact lay_se (by omega)) rfl (by omega) ?_
    refine v_icmp_ge (tgt := 16) dX1_hasHead_9 (by decide) (fun h9 => ?_) (fun h9 => ?_)
    · refine v_icN (n := 0) dX1_hasHead_16 (by decide) ?_
      exact v_retI dX1_hasHead_17 (by first | exact Or.inl rfl | exact Or.inr rfl | exact bI_01) (by refine ⟨?_, rfl⟩; simp [bI, *])
    · refine v_icN (n := 1) dX1_hasHead_12 (by decide) ?_
      refine v_goto (tgt := 17) dX1_hasHead_13 (by decide) ?_
      exact v_retI dX1_hasHead_17 (by first | exact Or.inl rfl | exact Or.inr rfl | exact bI_01) (by refine ⟨?_, rfl⟩; simp [bI, *])

abbrev sbit (x i : Int32) : Prop := ¬ ((x >>> (i &&& 31)) &&& nI 1) = 0

set_option maxRecDepth 4000 in
theorem c_X1_isStruck {G : GG} {dc : Nat} {I : Nat → Nat → Int32} {L : Nat → Nat → Int64} {d : Nat} {i : Int32} (hd : d < dc) (hdc : dc ≤ 24) : Cn G yX1_isStruck cX1_isStruck 2 (some .boolean) 0 0 0 [.ref (78 + 3 * d), .int i] (Mm dc I L) (Is (some (.int (bI (sbit (I (78 + 3 * d) 9) i)))) (Mm dc I L)) := by
  refine Cn.of' (by decide) (Nat.le_of_ble_eq_true rfl) rfl ?_
  refine v_ald0 dX1_isStruck_0 ?_
  refine v_getI dX1_isStruck_1 fl_X1_62 (by first | rfl | exact lay_door (by omega) | exact lay_dt (by omega) | exact lay_da (by omega) | exact lay_sh (by omega) | exact lay_se (by omega)) rfl (by omega) ?_
  refine v_ild1 dX1_isStruck_4 ?_
  refine v_ishr dX1_isStruck_5 ?_
  refine v_icN (n := 1) dX1_isStruck_6 (by decide) ?_
  refine v_iand dX1_isStruck_7 ?_
  refine v_if_eq (tgt := 15) dX1_isStruck_8 (by decide) (fun h8 => ?_) (fun h8 => ?_)
  · refine v_icN (n := 0) dX1_isStruck_15 (by decide) ?_
    exact v_retI dX1_isStruck_16 (by first | exact Or.inl rfl | exact Or.inr rfl | exact bI_01) (by refine ⟨?_, rfl⟩; simp [bI, *])
  · refine v_icN (n := 1) dX1_isStruck_11 (by decide) ?_
    refine v_goto (tgt := 16) dX1_isStruck_12 (by decide) ?_
    exact v_retI dX1_isStruck_16 (by first | exact Or.inl rfl | exact Or.inr rfl | exact bI_01) (by refine ⟨?_, rfl⟩; simp [bI, *])

set_option maxRecDepth 4000 in
theorem c_X1_strike {G : GG} {dc : Nat} {I : Nat → Nat → Int32} {L : Nat → Nat → Int64} {d : Nat} {i : Int32} (hd : d < dc) (hdc : dc ≤ 24) : Cn G yX1_strike cX1_strike 2 none 0 0 0 [.ref (78 + 3 * d), .int i] (Mm dc I L) (Is none (Mm dc (u2 I (78 + 3 * d) 9 (I (78 + 3 * d) 9 ||| (nI 1 <<< (i &&& 31)))) L)) := by
  refine Cn.of' (by decide) (Nat.le_of_ble_eq_true rfl) rfl ?_
  refine v_ald0 dX1_strike_0 ?_
  refine v_dupR dX1_strike_1 ?_
  refine v_getI dX1_strike_2 fl_X1_62 (by first | rfl | exact lay_door (by omega) | exact lay_dt (by omega) | exact lay_da (by omega) | exact lay_sh (by omega) | exact lay_se (by omega)) rfl (by omega) ?_
  refine v_icN (n := 1) dX1_strike_5 (by decide) ?_
  refine v_ild1 dX1_strike_6 ?_
  refine v_ishl dX1_strike_7 ?_
  refine v_ior dX1_strike_8 ?_
  refine v_putI dX1_strike_9 fl_X1_62 ft_1_9 (by first | rfl | exact lay_door (by omega) | exact lay_dt (by omega) | exact lay_da (by omega) | exact lay_sh (by omega) | exact lay_se (by omega)) rfl (by omega) ?_
  exact v_retV dX1_strike_12 trivial ⟨rfl, rfl⟩

set_option maxRecDepth 4000 in
theorem c_X1_counted {G : GG} {dc : Nat} {I : Nat → Nat → Int32} {L : Nat → Nat → Int64} {d : Nat} (hd : d < dc) (hdc : dc ≤ 24) : Cn G yX1_counted cX1_counted 1 (some .int) 1 0 0 [.ref (78 + 3 * d)] (Mm dc I L) (Is (some (.int (I (78 + 3 * d) 8 - bc32 (I (78 + 3 * d) 9)))) (Mm dc I L)) := by
  refine Cn.of' (by decide) (Nat.le_of_ble_eq_true rfl) rfl ?_
  refine v_ald0 dX1_counted_0 ?_
  refine v_getI dX1_counted_1 fl_X1_59 (by first | rfl | exact lay_door (by omega) | exact lay_dt (by omega) | exact lay_da (by omega) | exact lay_sh (by omega) | exact lay_se (by omega)) rfl (by omega) ?_
  refine v_ald0 dX1_counted_4 ?_
  refine v_getI dX1_counted_5 fl_X1_62 (by first | rfl | exact lay_door (by omega) | exact lay_dt (by omega) | exact lay_da (by omega) | exact lay_sh (by omega) | exact lay_se (by omega)) rfl (by omega) ?_
  refine v_S1 c_J6_bitCount_0f7a4 lk_X1_82 dX1_counted_8 (by decide) (Nat.le_of_ble_eq_true rfl) ?_
  refine v_isub dX1_counted_11 ?_
  exact v_retI dX1_counted_12 trivial ⟨rfl, rfl⟩

def bnd (a : Int32) : Int32 := if a = -2 then nI 3 else if ¬ nI 17 < a then nI 0 else if ¬ nI 64 < a then nI 1 else nI 2

set_option maxRecDepth 4000 in
theorem c_X1_bandOf {G : GG} {μ : Mem} {a : Int32} : Cn G yX1_bandOf cX1_bandOf 1 (some .int) 0 0 0 [.int a] μ (Is (some (.int (bnd a))) μ) := by
  refine Cn.of' (by decide) (Nat.le_of_ble_eq_true rfl) rfl ?_
  refine v_ild0 dX1_bandOf_0 ?_
  refine v_bipush (v := -2) dX1_bandOf_1 (by decide) ?_
  refine v_icmp_ne (tgt := 8) dX1_bandOf_3 (by decide) (fun h3 => ?_) (fun h3 => ?_)
  · refine v_ild0 dX1_bandOf_8 ?_
    refine v_bipush (v := nI 17) dX1_bandOf_9 (by decide) ?_
    refine v_icmp_gt (tgt := 16) dX1_bandOf_11 (by decide) (fun h11 => ?_) (fun h11 => ?_)
    · refine v_ild0 dX1_bandOf_16 ?_
      refine v_bipush (v := nI 64) dX1_bandOf_17 (by decide) ?_
      refine v_icmp_gt (tgt := 26) dX1_bandOf_19 (by decide) (fun h19 => ?_) (fun h19 => ?_)
      · refine v_icN (n := 2) dX1_bandOf_26 (by decide) ?_
        exact v_retI dX1_bandOf_27 trivial (by refine ⟨?_, rfl⟩; simp [bnd, *])
      · refine v_icN (n := 1) dX1_bandOf_22 (by decide) ?_
        refine v_goto (tgt := 27) dX1_bandOf_23 (by decide) ?_
        exact v_retI dX1_bandOf_27 trivial (by refine ⟨?_, rfl⟩; simp [bnd, *])
    · refine v_icN (n := 0) dX1_bandOf_14 (by decide) ?_
      exact v_retI dX1_bandOf_15 trivial (by refine ⟨?_, rfl⟩; simp [bnd, *])
  · refine v_icN (n := 3) dX1_bandOf_6 (by decide) ?_
    exact v_retI dX1_bandOf_7 trivial (by refine ⟨?_, rfl⟩; simp [bnd, *])

abbrev cfl (I : Nat → Nat → Int32) (d : Nat) (w : Int32) : Prop := ((I (78 + 3 * d) 6 = nI 1 ∧ I (78 + 3 * d) 7 = 0) ∨ I (78 + 3 * d) 6 = nI 2) ∧ I (78 + 3 * d) 1 = w ∧ ¬ nI 2 ≤ I (78 + 3 * d) 11

set_option maxRecDepth 4000 in
theorem c_X1_canFill {G : GG} {dc : Nat} {I : Nat → Nat → Int32} {L : Nat → Nat → Int64} {d : Nat} {w : Int32} (hd : d < dc) (hdc : dc ≤ 24) : Cn G yX1_canFill cX1_canFill 3 (some .boolean) 0 0 0 [.ref (78 + 3 * d), .int w] (Mm dc I L) (Is (some (.int (bI (cfl I d w)))) (Mm dc I L)) := by
  refine Cn.of' (by decide) (Nat.le_of_ble_eq_true rfl) rfl ?_
  refine v_ald0 dX1_canFill_0 ?_
  refine v_getI dX1_canFill_1 fl_X1_18 (by first | rfl | exact lay_door (by omega) | exact lay_dt (by omega) | exact lay_da (by omega) | exact lay_sh (by omega) | exact lay_se (by omega)) rfl (by omega) ?_
  refine v_icN (n := 1) dX1_canFill_4 (by decide) ?_
  refine v_icmp_ne (tgt := 15) dX1_canFill_5 (by decide) (fun h5 => ?_) (fun h5 => ?_)
  · refine v_ald0 dX1_canFill_15 ?_
    refine v_getI dX1_canFill_16 fl_X1_18 (by first | rfl | exact lay_door (by omega) | exact lay_dt (by omega) | exact lay_da (by omega) | exact lay_sh (by omega) | exact lay_se (by omega)) rfl (by omega) ?_
    refine v_icN (n := 2) dX1_canFill_19 (by decide) ?_
    refine v_icmp_ne (tgt := 27) dX1_canFill_20 (by decide) (fun h20 => ?_) (fun h20 => ?_)
    · refine v_icN (n := 0) dX1_canFill_27 (by decide) ?_
      refine v_ist2 dX1_canFill_28 rfl ?_
      refine v_ild2 dX1_canFill_29 ?_
      refine v_if_eq (tgt := 53) dX1_canFill_30 (by decide) (fun h30 => ?_) (fun h30 => ?_)
      · refine v_icN (n := 0) dX1_canFill_53 (by decide) ?_
        exact v_retI dX1_canFill_54 (by first | exact Or.inl rfl | exact Or.inr rfl | exact bI_01) (by refine ⟨?_, rfl⟩; first | (exact absurd rfl h30) | (exact absurd h30 (by decide)) | (exact absurd (h5.symm.trans h20) (by decide)) | (simp [bI, *]; done) | (simp [bI, *, show ¬ nI 1 = nI 2 by decide]; done))
      · refine v_ald0 dX1_canFill_33 ?_
        refine v_getI dX1_canFill_34 fl_X1_31 (by first | rfl | exact lay_door (by omega) | exact lay_dt (by omega) | exact lay_da (by omega) | exact lay_sh (by omega) | exact lay_se (by omega)) rfl (by omega) ?_
        refine v_ild1 dX1_canFill_37 ?_
        refine v_icmp_ne (tgt := 53) dX1_canFill_38 (by decide) (fun h38 => ?_) (fun h38 => ?_)
        · refine v_icN (n := 0) dX1_canFill_53 (by decide) ?_
          exact v_retI dX1_canFill_54 (by first | exact Or.inl rfl | exact Or.inr rfl | exact bI_01) (by refine ⟨?_, rfl⟩; first | (exact absurd rfl h30) | (exact absurd h30 (by decide)) | (exact absurd (h5.symm.trans h20) (by decide)) | (simp [bI, *]; done) | (simp [bI, *, show ¬ nI 1 = nI 2 by decide]; done))
        · refine v_ald0 dX1_canFill_41 ?_
          refine v_getI dX1_canFill_42 fl_X1_75 (by first | rfl | exact lay_door (by omega) | exact lay_dt (by omega) | exact lay_da (by omega) | exact lay_sh (by omega) | exact lay_se (by omega)) rfl (by omega) ?_
          refine v_icN (n := 2) dX1_canFill_45 (by decide) ?_
          refine v_icmp_ge (tgt := 53) dX1_canFill_46 (by decide) (fun h46 => ?_) (fun h46 => ?_)
          · refine v_icN (n := 0) dX1_canFill_53 (by decide) ?_
            exact v_retI dX1_canFill_54 (by first | exact Or.inl rfl | exact Or.inr rfl | exact bI_01) (by refine ⟨?_, rfl⟩; first | (exact absurd rfl h30) | (exact absurd h30 (by decide)) | (exact absurd (h5.symm.trans h20) (by decide)) | (simp [bI, *]; done) | (simp [bI, *, show ¬ nI 1 = nI 2 by decide]; done))
          · refine v_icN (n := 1) dX1_canFill_49 (by decide) ?_
            refine v_goto (tgt := 54) dX1_canFill_50 (by decide) ?_
            exact v_retI dX1_canFill_54 (by first | exact Or.inl rfl | exact Or.inr rfl | exact bI_01) (by refine ⟨?_, rfl⟩; first | (exact absurd rfl h30) | (exact absurd h30 (by decide)) | (exact absurd (h5.symm.trans h20) (by decide)) | (simp [bI, *]; done) | (simp [bI, *, show ¬ nI 1 = nI 2 by decide]; done))
    · refine v_icN (n := 1) dX1_canFill_23 (by decide) ?_
      refine v_goto (tgt := 28) dX1_canFill_24 (by decide) ?_
      refine v_ist2 dX1_canFill_28 rfl ?_
      refine v_ild2 dX1_canFill_29 ?_
      refine v_if_eq (tgt := 53) dX1_canFill_30 (by decide) (fun h30 => ?_) (fun h30 => ?_)
      · refine v_icN (n := 0) dX1_canFill_53 (by decide) ?_
        exact v_retI dX1_canFill_54 (by first | exact Or.inl rfl | exact Or.inr rfl | exact bI_01) (by refine ⟨?_, rfl⟩; first | (exact absurd rfl h30) | (exact absurd h30 (by decide)) | (exact absurd (h5.symm.trans h20) (by decide)) | (simp [bI, *]; done) | (simp [bI, *, show ¬ nI 1 = nI 2 by decide]; done))
      · refine v_ald0 dX1_canFill_33 ?_
        refine v_getI dX1_canFill_34 fl_X1_31 (by first | rfl | exact lay_door (by omega) | exact lay_dt (by omega) | exact lay_da (by omega) | exact lay_sh (by omega) | exact lay_se (by omega)) rfl (by omega) ?_
        refine v_ild1 dX1_canFill_37 ?_
        refine v_icmp_ne (tgt := 53) dX1_canFill_38 (by decide) (fun h38 => ?_) (fun h38 => ?_)
        · refine v_icN (n := 0) dX1_canFill_53 (by decide) ?_
          exact v_retI dX1_canFill_54 (by first | exact Or.inl rfl | exact Or.inr rfl | exact bI_01) (by refine ⟨?_, rfl⟩; first | (exact absurd rfl h30) | (exact absurd h30 (by decide)) | (exact absurd (h5.symm.trans h20) (by decide)) | (simp [bI, *]; done) | (simp [bI, *, show ¬ nI 1 = nI 2 by decide]; done))
        · refine v_ald0 dX1_canFill_41 ?_
          refine v_getI dX1_canFill_42 fl_X1_75 (by first | rfl | exact lay_door (by omega) | exact lay_dt (by omega) | exact lay_da (by omega) | exact lay_sh (by omega) | exact lay_se (by omega)) rfl (by omega) ?_
          refine v_icN (n := 2) dX1_canFill_45 (by decide) ?_
          refine v_icmp_ge (tgt := 53) dX1_canFill_46 (by decide) (fun h46 => ?_) (fun h46 => ?_)
          · refine v_icN (n := 0) dX1_canFill_53 (by decide) ?_
            exact v_retI dX1_canFill_54 (by first | exact Or.inl rfl | exact Or.inr rfl | exact bI_01) (by refine ⟨?_, rfl⟩; first | (exact absurd rfl h30) | (exact absurd h30 (by decide)) | (exact absurd (h5.symm.trans h20) (by decide)) | (simp [bI, *]; done) | (simp [bI, *, show ¬ nI 1 = nI 2 by decide]; done))
          · refine v_icN (n := 1) dX1_canFill_49 (by decide) ?_
            refine v_goto (tgt := 54) dX1_canFill_50 (by decide) ?_
            exact v_retI dX1_canFill_54 (by first | exact Or.inl rfl | exact Or.inr rfl | exact bI_01) (by refine ⟨?_, rfl⟩; first | (exact absurd rfl h30) | (exact absurd h30 (by decide)) | (exact absurd (h5.symm.trans h20) (by decide)) | (simp [bI, *]; done) | (simp [bI, *, show ¬ nI 1 = nI 2 by decide]; done))
  · refine v_ald0 dX1_canFill_8 ?_
    refine v_getI dX1_canFill_9 fl_X1_55 (by first | rfl | exact lay_door (by omega) | exact lay_dt (by omega) | exact lay_da (by omega) | exact lay_sh (by omega) | exact lay_se (by omega)) rfl (by omega) ?_
    refine v_if_eq (tgt := 23) dX1_canFill_12 (by decide) (fun h12 => ?_) (fun h12 => ?_)
    · refine v_icN (n := 1) dX1_canFill_23 (by decide) ?_
      refine v_goto (tgt := 28) dX1_canFill_24 (by decide) ?_
      refine v_ist2 dX1_canFill_28 rfl ?_
      refine v_ild2 dX1_canFill_29 ?_
      refine v_if_eq (tgt := 53) dX1_canFill_30 (by decide) (fun h30 => ?_) (fun h30 => ?_)
      · refine v_icN (n := 0) dX1_canFill_53 (by decide) ?_
        exact v_retI dX1_canFill_54 (by first | exact Or.inl rfl | exact Or.inr rfl | exact bI_01) (by refine ⟨?_, rfl⟩; first | (exact absurd rfl h30) | (exact absurd h30 (by decide)) | (exact absurd (h5.symm.trans h20) (by decide)) | (simp [bI, *]; done) | (simp [bI, *, show ¬ nI 1 = nI 2 by decide]; done))
      · refine v_ald0 dX1_canFill_33 ?_
        refine v_getI dX1_canFill_34 fl_X1_31 (by first | rfl | exact lay_door (by omega) | exact lay_dt (by omega) | exact lay_da (by omega) | exact lay_sh (by omega) | exact lay_se (by omega)) rfl (by omega) ?_
        refine v_ild1 dX1_canFill_37 ?_
        refine v_icmp_ne (tgt := 53) dX1_canFill_38 (by decide) (fun h38 => ?_) (fun h38 => ?_)
        · refine v_icN (n := 0) dX1_canFill_53 (by decide) ?_
          exact v_retI dX1_canFill_54 (by first | exact Or.inl rfl | exact Or.inr rfl | exact bI_01) (by refine ⟨?_, rfl⟩; first | (exact absurd rfl h30) | (exact absurd h30 (by decide)) | (exact absurd (h5.symm.trans h20) (by decide)) | (simp [bI, *]; done) | (simp [bI, *, show ¬ nI 1 = nI 2 by decide]; done))
        · refine v_ald0 dX1_canFill_41 ?_
          refine v_getI dX1_canFill_42 fl_X1_75 (by first | rfl | exact lay_door (by omega) | exact lay_dt (by omega) | exact lay_da (by omega) | exact lay_sh (by omega) | exact lay_se (by omega)) rfl (by omega) ?_
          refine v_icN (n := 2) dX1_canFill_45 (by decide) ?_
          refine v_icmp_ge (tgt := 53) dX1_canFill_46 (by decide) (fun h46 => ?_) (fun h46 => ?_)
          · refine v_icN (n := 0) dX1_canFill_53 (by decide) ?_
            exact v_retI dX1_canFill_54 (by first | exact Or.inl rfl | exact Or.inr rfl | exact bI_01) (by refine ⟨?_, rfl⟩; first | (exact absurd rfl h30) | (exact absurd h30 (by decide)) | (exact absurd (h5.symm.trans h20) (by decide)) | (simp [bI, *]; done) | (simp [bI, *, show ¬ nI 1 = nI 2 by decide]; done))
          · refine v_icN (n := 1) dX1_canFill_49 (by decide) ?_
            refine v_goto (tgt := 54) dX1_canFill_50 (by decide) ?_
            exact v_retI dX1_canFill_54 (by first | exact Or.inl rfl | exact Or.inr rfl | exact bI_01) (by refine ⟨?_, rfl⟩; first | (exact absurd rfl h30) | (exact absurd h30 (by decide)) | (exact absurd (h5.symm.trans h20) (by decide)) | (simp [bI, *]; done) | (simp [bI, *, show ¬ nI 1 = nI 2 by decide]; done))
    · refine v_ald0 dX1_canFill_15 ?_
      refine v_getI dX1_canFill_16 fl_X1_18 (by first | rfl | exact lay_door (by omega) | exact lay_dt (by omega) | exact lay_da (by omega) | exact lay_sh (by omega) | exact lay_se (by omega)) rfl (by omega) ?_
      refine v_icN (n := 2) dX1_canFill_19 (by decide) ?_
      refine v_icmp_ne (tgt := 27) dX1_canFill_20 (by decide) (fun h20 => ?_) (fun h20 => ?_)
      · refine v_icN (n := 0) dX1_canFill_27 (by decide) ?_
        refine v_ist2 dX1_canFill_28 rfl ?_
        refine v_ild2 dX1_canFill_29 ?_
        refine v_if_eq (tgt := 53) dX1_canFill_30 (by decide) (fun h30 => ?_) (fun h30 => ?_)
        · refine v_icN (n := 0) dX1_canFill_53 (by decide) ?_
          exact v_retI dX1_canFill_54 (by first | exact Or.inl rfl | exact Or.inr rfl | exact bI_01) (by refine ⟨?_, rfl⟩; first | (exact absurd rfl h30) | (exact absurd h30 (by decide)) | (exact absurd (h5.symm.trans h20) (by decide)) | (simp [bI, *]; done) | (simp [bI, *, show ¬ nI 1 = nI 2 by decide]; done))
        · refine v_ald0 dX1_canFill_33 ?_
          refine v_getI dX1_canFill_34 fl_X1_31 (by first | rfl | exact lay_door (by omega) | exact lay_dt (by omega) | exact lay_da (by omega) | exact lay_sh (by omega) | exact lay_se (by omega)) rfl (by omega) ?_
          refine v_ild1 dX1_canFill_37 ?_
          refine v_icmp_ne (tgt := 53) dX1_canFill_38 (by decide) (fun h38 => ?_) (fun h38 => ?_)
          · refine v_icN (n := 0) dX1_canFill_53 (by decide) ?_
            exact v_retI dX1_canFill_54 (by first | exact Or.inl rfl | exact Or.inr rfl | exact bI_01) (by refine ⟨?_, rfl⟩; first | (exact absurd rfl h30) | (exact absurd h30 (by decide)) | (exact absurd (h5.symm.trans h20) (by decide)) | (simp [bI, *]; done) | (simp [bI, *, show ¬ nI 1 = nI 2 by decide]; done))
          · refine v_ald0 dX1_canFill_41 ?_
            refine v_getI dX1_canFill_42 fl_X1_75 (by first | rfl | exact lay_door (by omega) | exact lay_dt (by omega) | exact lay_da (by omega) | exact lay_sh (by omega) | exact lay_se (by omega)) rfl (by omega) ?_
            refine v_icN (n := 2) dX1_canFill_45 (by decide) ?_
            refine v_icmp_ge (tgt := 53) dX1_canFill_46 (by decide) (fun h46 => ?_) (fun h46 => ?_)
            · refine v_icN (n := 0) dX1_canFill_53 (by decide) ?_
              exact v_retI dX1_canFill_54 (by first | exact Or.inl rfl | exact Or.inr rfl | exact bI_01) (by refine ⟨?_, rfl⟩; first | (exact absurd rfl h30) | (exact absurd h30 (by decide)) | (exact absurd (h5.symm.trans h20) (by decide)) | (simp [bI, *]; done) | (simp [bI, *, show ¬ nI 1 = nI 2 by decide]; done))
            · refine v_icN (n := 1) dX1_canFill_49 (by decide) ?_
              refine v_goto (tgt := 54) dX1_canFill_50 (by decide) ?_
              exact v_retI dX1_canFill_54 (by first | exact Or.inl rfl | exact Or.inr rfl | exact bI_01) (by refine ⟨?_, rfl⟩; first | (exact absurd rfl h30) | (exact absurd h30 (by decide)) | (exact absurd (h5.symm.trans h20) (by decide)) | (simp [bI, *]; done) | (simp [bI, *, show ¬ nI 1 = nI 2 by decide]; done))
      · refine v_icN (n := 1) dX1_canFill_23 (by decide) ?_
        refine v_goto (tgt := 28) dX1_canFill_24 (by decide) ?_
        refine v_ist2 dX1_canFill_28 rfl ?_
        refine v_ild2 dX1_canFill_29 ?_
        refine v_if_eq (tgt := 53) dX1_canFill_30 (by decide) (fun h30 => ?_) (fun h30 => ?_)
        · refine v_icN (n := 0) dX1_canFill_53 (by decide) ?_
          exact v_retI dX1_canFill_54 (by first | exact Or.inl rfl | exact Or.inr rfl | exact bI_01) (by refine ⟨?_, rfl⟩; first | (exact absurd rfl h30) | (exact absurd h30 (by decide)) | (exact absurd (h5.symm.trans h20) (by decide)) | (simp [bI, *]; done) | (simp [bI, *, show ¬ nI 1 = nI 2 by decide]; done))
        · refine v_ald0 dX1_canFill_33 ?_
          refine v_getI dX1_canFill_34 fl_X1_31 (by first | rfl | exact lay_door (by omega) | exact lay_dt (by omega) | exact lay_da (by omega) | exact lay_sh (by omega) | exact lay_se (by omega)) rfl (by omega) ?_
          refine v_ild1 dX1_canFill_37 ?_
          refine v_icmp_ne (tgt := 53) dX1_canFill_38 (by decide) (fun h38 => ?_) (fun h38 => ?_)
          · refine v_icN (n := 0) dX1_canFill_53 (by decide) ?_
            exact v_retI dX1_canFill_54 (by first | exact Or.inl rfl | exact Or.inr rfl | exact bI_01) (by refine ⟨?_, rfl⟩; first | (exact absurd rfl h30) | (exact absurd h30 (by decide)) | (exact absurd (h5.symm.trans h20) (by decide)) | (simp [bI, *]; done) | (simp [bI, *, show ¬ nI 1 = nI 2 by decide]; done))
          · refine v_ald0 dX1_canFill_41 ?_
            refine v_getI dX1_canFill_42 fl_X1_75 (by first | rfl | exact lay_door (by omega) | exact lay_dt (by omega) | exact lay_da (by omega) | exact lay_sh (by omega) | exact lay_se (by omega)) rfl (by omega) ?_
            refine v_icN (n := 2) dX1_canFill_45 (by decide) ?_
            refine v_icmp_ge (tgt := 53) dX1_canFill_46 (by decide) (fun h46 => ?_) (fun h46 => ?_)
            · refine v_icN (n := 0) dX1_canFill_53 (by decide) ?_
              exact v_retI dX1_canFill_54 (by first | exact Or.inl rfl | exact Or.inr rfl | exact bI_01) (by refine ⟨?_, rfl⟩; first | (exact absurd rfl h30) | (exact absurd h30 (by decide)) | (exact absurd (h5.symm.trans h20) (by decide)) | (simp [bI, *]; done) | (simp [bI, *, show ¬ nI 1 = nI 2 by decide]; done))
            · refine v_icN (n := 1) dX1_canFill_49 (by decide) ?_
              refine v_goto (tgt := 54) dX1_canFill_50 (by decide) ?_
              exact v_retI dX1_canFill_54 (by first | exact Or.inl rfl | exact Or.inr rfl | exact bI_01) (by refine ⟨?_, rfl⟩; first | (exact absurd rfl h30) | (exact absurd h30 (by decide)) | (exact absurd (h5.symm.trans h20) (by decide)) | (simp [bI, *]; done) | (simp [bI, *, show ¬ nI 1 = nI 2 by decide]; done))
