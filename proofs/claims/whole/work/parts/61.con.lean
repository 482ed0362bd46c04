/-! ===== constructors ===== -/
section ZZ
variable {x n a k : Nat} {I : Nat → Nat → Int32} {L : Nat → Nat → Int64} {P : Nat → Nat → Option Nat}
theorem Z0.uI {v : Int32} (hx : x ≠ a) (h : Z0 x I L P) : Z0 x (u2 I a k v) L P := fun j => ⟨(u2_a _ _ _ _ hx).trans (h j).1, (h j).2.1, (h j).2.2⟩
theorem Z0.uP {v : Option Nat} (hx : x ≠ a) (h : Z0 x I L P) : Z0 x I L (u2 P a k v) := fun j => ⟨(h j).1, (h j).2.1, (u2_a _ _ _ _ hx).trans (h j).2.2⟩
theorem Z0.fI {v : Int32} (hx : x ≠ a) (h : Z0 x I L P) : Z0 x (fl2 I a k v) L P := fun j => ⟨(fl2_o _ _ _ _ hx).trans (h j).1, (h j).2.1, (h j).2.2⟩
end ZZ

set_option maxRecDepth 4000 in
theorem c_X4_init {G : GG} {a n : Nat} {I : Nat → Nat → Int32} {L : Nat → Nat → Int64} {P : Nat → Nat → Option Nat} (ha : lay a = (4, 4)) (hl0 : lay n = (11, 30)) (hn : a < n) (hz : ∀ x, n ≤ x → Z0 x I L P) : Cn G yX4_init cX4_init 1 none 1 1 30 [.ref a] (n, I, L, P) (Is none (n + 1, u2 (u2 (I) (a) 1 (-1)) (a) 3 (-1), L, u2 (P) (a) 0 (some (n)))) := by
  refine Cn.of' (by decide) (Nat.le_of_ble_eq_true rfl) rfl ?_
  refine v_ald0 dX4_init_0 ?_
  refine v_objInit dX4_init_1 lo_X4_3 oi_inst oi_code (by decide) rfl ?_
  refine v_ald0 dX4_init_4 ?_
  refine v_bipush (v := nI 30) dX4_init_5 (by decide) ?_
  refine v_newaL (n := n) dX4_init_7 ac_long hl0 rfl (by decide) (hz _ (by omega)) ?_
  refine v_putP dX4_init_9 fl_X4_11 rfl ft_4_0 ha rfl (by omega) ?_
  refine v_ald0 dX4_init_12 ?_
  refine v_icm1 dX4_init_13 ?_
  refine v_putI dX4_init_14 fl_X4_15 ft_4_1 ha rfl (by omega) ?_
  refine v_ald0 dX4_init_17 ?_
  refine v_icm1 dX4_init_18 ?_
  refine v_putI dX4_init_19 fl_X4_19 ft_4_3 ha rfl (by omega) ?_
  exact v_retV dX4_init_22 trivial ⟨rfl, rfl⟩

set_option maxRecDepth 4000 in
theorem c_X3_init {G : GG} {a n : Nat} {I : Nat → Nat → Int32} {L : Nat → Nat → Int64} {P : Nat → Nat → Option Nat} (ha : lay a = (3, 4)) (hn : a < n) (hz : ∀ x, n ≤ x → Z0 x I L P) : Cn G yX3_init cX3_init 1 none 1 0 0 [.ref a] (n, I, L, P) (Is none (n, u2 (u2 (u2 (u2 (I) (a) 0 (nI 3)) (a) 1 (nI 2)) (a) 2 (nI 3)) (a) 3 (-1), L, P)) := by
  refine Cn.of' (by decide) (Nat.le_of_ble_eq_true rfl) rfl ?_
  refine v_ald0 dX3_init_0 ?_
  refine v_objInit dX3_init_1 lo_X3_3 oi_inst oi_code (by decide) rfl ?_
  refine v_ald0 dX3_init_4 ?_
  refine v_icN (n := 3) dX3_init_5 (by decide) ?_
  refine v_putI dX3_init_6 fl_X3_9 ft_3_0 ha rfl (by omega) ?_
  refine v_ald0 dX3_init_9 ?_
  refine v_icN (n := 2) dX3_init_10 (by decide) ?_
  refine v_putI dX3_init_11 fl_X3_15 ft_3_1 ha rfl (by omega) ?_
  refine v_ald0 dX3_init_14 ?_
  refine v_icN (n := 3) dX3_init_15 (by decide) ?_
  refine v_putI dX3_init_16 fl_X3_18 ft_3_2 ha rfl (by omega) ?_
  refine v_ald0 dX3_init_19 ?_
  refine v_icm1 dX3_init_20 ?_
  refine v_putI dX3_init_21 fl_X3_21 ft_3_3 ha rfl (by omega) ?_
  exact v_retV dX3_init_24 trivial ⟨rfl, rfl⟩

set_option maxRecDepth 4000 in
theorem c_X0_init {G : GG} {a n : Nat} {I : Nat → Nat → Int32} {L : Nat → Nat → Int64} {P : Nat → Nat → Option Nat} (ha : lay a = (0, 4)) (hl0 : lay n = (10, 40)) (hl1 : lay (n + 1) = (10, 40)) (hn : a < n) (hz : ∀ x, n ≤ x → Z0 x I L P) : Cn G yX0_init cX0_init 1 none 1 2 80 [.ref a] (n, I, L, P) (Is none (n + 2, I, L, u2 (u2 (P) (a) 0 (some (n))) (a) 1 (some (n + 1)))) := by
  refine Cn.of' (by decide) (Nat.le_of_ble_eq_true rfl) rfl ?_
  refine v_ald0 dX0_init_0 ?_
  refine v_objInit dX0_init_1 lo_X0_3 oi_inst oi_code (by decide) rfl ?_
  refine v_ald0 dX0_init_4 ?_
  refine v_bipush (v := nI 40) dX0_init_5 (by decide) ?_
  refine v_newaI (n := n) dX0_init_7 ac_int hl0 rfl (by decide) (hz _ (by omega)) ?_
  refine v_putP dX0_init_9 fl_X0_9 rfl ft_0_0 ha rfl (by omega) ?_
  refine v_ald0 dX0_init_12 ?_
  refine v_bipush (v := nI 40) dX0_init_13 (by decide) ?_
  refine v_newaI (n := n + 1) dX0_init_15 ac_int hl1 rfl (by decide) (Z0.uP (by omega) (hz _ (by omega))) ?_
  refine v_putP dX0_init_17 fl_X0_15 rfl ft_0_1 ha rfl (by omega) ?_
  exact v_retV dX0_init_20 trivial ⟨rfl, rfl⟩

set_option maxRecDepth 4000 in
theorem c_X7_init {G : GG} {a n : Nat} {I : Nat → Nat → Int32} {L : Nat → Nat → Int64} {P : Nat → Nat → Option Nat} (ha : lay a = (7, 10)) (hl0 : lay n = (10, 6)) (hl1 : lay (n + 1) = (10, 6)) (hl2 : lay (n + 2) = (10, 6)) (hl3 : lay (n + 3) = (10, 6)) (hl4 : lay (n + 4) = (10, 6)) (hl5 : lay (n + 5) = (10, 6)) (hn : a < n) (hz : ∀ x, n ≤ x → Z0 x I L P) : Cn G yX7_init cX7_init 1 none 1 6 36 [.ref a] (n, I, L, P) (Is none (n + 6, fl2 (I) (n + 2) 6 (-1), L, u2 (u2 (u2 (u2 (u2 (u2 (P) (a) 0 (some (n))) (a) 1 (some (n + 1))) (a) 2 (some (n + 2))) (a) 3 (some (n + 3))) (a) 4 (some (n + 4))) (a) 5 (some (n + 5)))) := by
  refine Cn.of' (by decide) (Nat.le_of_ble_eq_true rfl) rfl ?_
  refine v_ald0 dX7_init_0 ?_
  refine v_objInit dX7_init_1 lo_X7_3 oi_inst oi_code (by decide) rfl ?_
  refine v_ald0 dX7_init_4 ?_
  refine v_bipush (v := nI 6) dX7_init_5 (by decide) ?_
  refine v_newaI (n := n) dX7_init_7 ac_int hl0 rfl (by decide) (hz _ (by omega)) ?_
  refine v_putP dX7_init_9 fl_X7_9 rfl ft_7_0 ha rfl (by omega) ?_
  refine v_ald0 dX7_init_12 ?_
  refine v_bipush (v := nI 6) dX7_init_13 (by decide) ?_
  refine v_newaI (n := n + 1) dX7_init_15 ac_int hl1 rfl (by decide) (Z0.uP (by omega) (hz _ (by omega))) ?_
  refine v_putP dX7_init_17 fl_X7_15 rfl ft_7_1 ha rfl (by omega) ?_
  refine v_ald0 dX7_init_20 ?_
  refine v_bipush (v := nI 6) dX7_init_21 (by decide) ?_
  refine v_newaI (n := n + 2) dX7_init_23 ac_int hl2 rfl (by decide) (Z0.uP (by omega) (Z0.uP (by omega) (hz _ (by omega)))) ?_
  refine v_putP dX7_init_25 fl_X7_18 rfl ft_7_2 ha rfl (by omega) ?_
  refine v_ald0 dX7_init_28 ?_
  refine v_bipush (v := nI 6) dX7_init_29 (by decide) ?_
  refine v_newaI (n := n + 3) dX7_init_31 ac_int hl3 rfl (by decide) (Z0.uP (by omega) (Z0.uP (by omega) (Z0.uP (by omega) (hz _ (by omega))))) ?_
  refine v_putP dX7_init_33 fl_X7_21 rfl ft_7_3 ha rfl (by omega) ?_
  refine v_ald0 dX7_init_36 ?_
  refine v_bipush (v := nI 6) dX7_init_37 (by decide) ?_
  refine v_newaI (n := n + 4) dX7_init_39 ac_int hl4 rfl (by decide) (Z0.uP (by omega) (Z0.uP (by omega) (Z0.uP (by omega) (Z0.uP (by omega) (hz _ (by omega)))))) ?_
  refine v_putP dX7_init_41 fl_X7_24 rfl ft_7_4 ha rfl (by omega) ?_
  refine v_ald0 dX7_init_44 ?_
  refine v_bipush (v := nI 6) dX7_init_45 (by decide) ?_
  refine v_newaI (n := n + 5) dX7_init_47 ac_int hl5 rfl (by decide) (Z0.uP (by omega) (Z0.uP (by omega) (Z0.uP (by omega) (Z0.uP (by omega) (Z0.uP (by omega) (hz _ (by omega))))))) ?_
  refine v_putP dX7_init_49 fl_X7_27 rfl ft_7_5 ha rfl (by omega) ?_
  refine v_ald0 dX7_init_52 ?_
  refine v_getP (q := n + 2) dX7_init_53 fl_X7_18 ha rfl (by omega) (by rw [u2_k _ _ _ _ (by decide), u2_k _ _ _ _ (by decide), u2_k _ _ _ _ (by decide), u2_s]) ?_
  refine v_icm1 dX7_init_56 ?_
  refine v_S2n (c_J7_fill_53178 (N := 6) hl2 (by decide) (by omega)) lk_X7_30 dX7_init_57 (by decide) (Nat.le_of_ble_eq_true rfl) ?_
  exact v_retV dX7_init_60 trivial ⟨rfl, rfl⟩

set_option maxRecDepth 4000 in
theorem c_X2_init {G : GG} {a n : Nat} {I : Nat → Nat → Int32} {L : Nat → Nat → Int64} {P : Nat → Nat → Option Nat} (ha : lay a = (2, 2)) (hn : a < n) (hz : ∀ x, n ≤ x → Z0 x I L P) : Cn G yX2_init cX2_init 1 none 1 0 0 [.ref a] (n, I, L, P) (Is none (n, I, L, P)) := by
  refine Cn.of' (by decide) (Nat.le_of_ble_eq_true rfl) rfl ?_
  refine v_ald0 dX2_init_0 ?_
  refine v_objInit dX2_init_1 lo_X2_5 oi_inst oi_code (by decide) rfl ?_
  exact v_retV dX2_init_4 trivial ⟨rfl, rfl⟩

set_option maxRecDepth 4000 in
theorem c_X5_init {G : GG} {a n : Nat} {I : Nat → Nat → Int32} {L : Nat → Nat → Int64} {P : Nat → Nat → Option Nat} (ha : lay a = (5, 4)) (hl0 : lay n = (10, 24)) (hl1 : lay (n + 1) = (10, 10)) (hl2 : lay (n + 2) = (10, 10)) (hn : a < n) (hz : ∀ x, n ≤ x → Z0 x I L P) : Cn G yX5_init cX5_init 1 none 1 3 44 [.ref a] (n, I, L, P) (Is none (n + 3, I, L, u2 (u2 (u2 (P) (a) 0 (some (n))) (a) 1 (some (n + 1))) (a) 2 (some (n + 2)))) := by
  refine Cn.of' (by decide) (Nat.le_of_ble_eq_true rfl) rfl ?_
  refine v_ald0 dX5_init_0 ?_
  refine v_objInit dX5_init_1 lo_X5_3 oi_inst oi_code (by decide) rfl ?_
  refine v_ald0 dX5_init_4 ?_
  refine v_bipush (v := nI 24) dX5_init_5 (by decide) ?_
  refine v_newaI (n := n) dX5_init_7 ac_int hl0 rfl (by decide) (hz _ (by omega)) ?_
  refine v_putP dX5_init_9 fl_X5_11 rfl ft_5_0 ha rfl (by omega) ?_
  refine v_ald0 dX5_init_12 ?_
  refine v_bipush (v := nI 10) dX5_init_13 (by decide) ?_
  refine v_newaI (n := n + 1) dX5_init_15 ac_int hl1 rfl (by decide) (Z0.uP (by omega) (hz _ (by omega))) ?_
  refine v_putP dX5_init_17 fl_X5_17 rfl ft_5_1 ha rfl (by omega) ?_
  refine v_ald0 dX5_init_20 ?_
  refine v_bipush (v := nI 10) dX5_init_21 (by decide) ?_
  refine v_newaI (n := n + 2) dX5_init_23 ac_int hl2 rfl (by decide) (Z0.uP (by omega) (Z0.uP (by omega) (hz _ (by omega)))) ?_
  refine v_putP dX5_init_25 fl_X5_20 rfl ft_5_2 ha rfl (by omega) ?_
  exact v_retV dX5_init_28 trivial ⟨rfl, rfl⟩

set_option maxRecDepth 4000 in
theorem c_X6_init {G : GG} {a n : Nat} {I : Nat → Nat → Int32} {L : Nat → Nat → Int64} {P : Nat → Nat → Option Nat} (ha : lay a = (6, 6)) (hl0 : lay n = (10, 24)) (hl1 : lay (n + 1) = (10, 24)) (hl2 : lay (n + 2) = (2, 2)) (hl3 : lay (n + 3) = (5, 4)) (hl4 : lay (n + 4) = (10, 24)) (hl5 : lay (n + 5) = (10, 10)) (hl6 : lay (n + 6) = (10, 10)) (hn : a < n) (hz : ∀ x, n ≤ x → Z0 x I L P) : Cn G yX6_init cX6_init 1 none 2 7 98 [.ref a] (n, I, L, P) (Is none (n + 7, I, L, u2 (u2 (u2 (u2 (u2 (u2 (u2 (P) (a) 0 (some (n))) (a) 1 (some (n + 1))) (a) 2 (some (n + 2))) (n + 3) 0 (some (n + 4))) (n + 3) 1 (some (n + 5))) (n + 3) 2 (some (n + 6))) (a) 3 (some (n + 3)))) := by
  refine Cn.of' (by decide) (Nat.le_of_ble_eq_true rfl) rfl ?_
  refine v_ald0 dX6_init_0 ?_
  refine v_objInit dX6_init_1 lo_X6_3 oi_inst oi_code (by decide) rfl ?_
  refine v_ald0 dX6_init_4 ?_
  refine v_bipush (v := nI 24) dX6_init_5 (by decide) ?_
  refine v_newaI (n := n) dX6_init_7 ac_int hl0 rfl (by decide) (hz _ (by omega)) ?_
  refine v_putP dX6_init_9 fl_X6_11 rfl ft_6_0 ha rfl (by omega) ?_
  refine v_ald0 dX6_init_12 ?_
  refine v_bipush (v := nI 24) dX6_init_13 (by decide) ?_
  refine v_newaI (n := n + 1) dX6_init_15 ac_int hl1 rfl (by decide) (Z0.uP (by omega) (hz _ (by omega))) ?_
  refine v_putP dX6_init_17 fl_X6_15 rfl ft_6_1 ha rfl (by omega) ?_
  refine v_ald0 dX6_init_20 ?_
  refine v_new (n := n + 2) dX6_init_21 cl_X6_18 hl2 (Z0.uP (by omega) (Z0.uP (by omega) (hz _ (by omega)))) ?_
  refine v_dupR dX6_init_24 ?_
  refine V.invN (av := []) (o := n + 2) (c_X2_init (a := n + 2) (n := n + 3) hl2 (by omega) (fun x hx => (Z0.uP (by omega) (Z0.uP (by omega) (hz x (by omega)))))) lk_X6_20 dX6_init_25 (by decide) (Nat.le_of_ble_eq_true rfl) rfl (fun r μ₁ h => ?_)
  obtain ⟨rfl, rfl⟩ := h
  refine v_putP dX6_init_28 fl_X6_21 rfl ft_6_2 ha rfl (by omega) ?_
  refine v_ald0 dX6_init_31 ?_
  refine v_new (n := n + 3) dX6_init_32 cl_X6_25 hl3 (Z0.uP (by omega) (Z0.uP (by omega) (Z0.uP (by omega) (hz _ (by omega))))) ?_
  refine v_dupR dX6_init_35 ?_
  refine V.invN (av := []) (o := n + 3) (c_X5_init (a := n + 3) (n := n + 4) hl3 hl4 hl5 hl6 (by omega) (fun x hx => (Z0.uP (by omega) (Z0.uP (by omega) (Z0.uP (by omega) (hz x (by omega))))))) lk_X6_27 dX6_init_36 (by decide) (Nat.le_of_ble_eq_true rfl) rfl (fun r μ₁ h => ?_)
  obtain ⟨rfl, rfl⟩ := h
  refine v_putP dX6_init_39 fl_X6_28 rfl ft_6_3 ha rfl (by omega) ?_
  exact v_retV dX6_init_42 trivial ⟨rfl, rfl⟩

set_option maxRecDepth 4000 in
theorem c_X1_init {G : GG} {a n : Nat} {I : Nat → Nat → Int32} {L : Nat → Nat → Int64} {P : Nat → Nat → Option Nat} {x1 x2 x3 : Int32} (ha : lay a = (1, 14)) (hl0 : lay n = (10, 12)) (hl1 : lay (n + 1) = (10, 12)) (hn : a < n) (hz : ∀ x, n ≤ x → Z0 x I L P) : Cn G yX1_init cX1_init 4 none 1 2 24 [.ref a, .int x1, .int x2, .int x3] (n, I, L, P) (Is none (n + 2, u2 (u2 (u2 (u2 (u2 (u2 (I) (a) 6 (nI 0)) (a) 12 (-1)) (a) 13 (-1)) (a) 0 x1) (a) 1 x2) (a) 2 x3, L, u2 (u2 (P) (a) 3 (some (n))) (a) 4 (some (n + 1)))) := by
  refine Cn.of' (by decide) (Nat.le_of_ble_eq_true rfl) rfl ?_
  refine v_ald0 dX1_init_0 ?_
  refine v_objInit dX1_init_1 lo_X1_3 oi_inst oi_code (by decide) rfl ?_
  refine v_ald0 dX1_init_4 ?_
  refine v_bipush (v := nI 12) dX1_init_5 (by decide) ?_
  refine v_newaI (n := n) dX1_init_7 ac_int hl0 rfl (by decide) (hz _ (by omega)) ?_
  refine v_putP dX1_init_9 fl_X1_9 rfl ft_1_3 ha rfl (by omega) ?_
  refine v_ald0 dX1_init_12 ?_
  refine v_bipush (v := nI 12) dX1_init_13 (by decide) ?_
  refine v_newaI (n := n + 1) dX1_init_15 ac_int hl1 rfl (by decide) (Z0.uP (by omega) (hz _ (by omega))) ?_
  refine v_putP dX1_init_17 fl_X1_15 rfl ft_1_4 ha rfl (by omega) ?_
  refine v_ald0 dX1_init_20 ?_
  refine v_icN (n := 0) dX1_init_21 (by decide) ?_
  refine v_putI dX1_init_22 fl_X1_18 ft_1_6 ha rfl (by omega) ?_
  refine v_ald0 dX1_init_25 ?_
  refine v_icm1 dX1_init_26 ?_
  refine v_putI dX1_init_27 fl_X1_22 ft_1_12 ha rfl (by omega) ?_
  refine v_ald0 dX1_init_30 ?_
  refine v_icm1 dX1_init_31 ?_
  refine v_putI dX1_init_32 fl_X1_25 ft_1_13 ha rfl (by omega) ?_
  refine v_ald0 dX1_init_35 ?_
  refine v_ild1 dX1_init_36 ?_
  refine v_putF dX1_init_37 fl_X1_28 rfl ft_1_0 ha rfl (by omega) ?_
  refine v_ald0 dX1_init_40 ?_
  refine v_ild2 dX1_init_41 ?_
  refine v_putF dX1_init_42 fl_X1_31 rfl ft_1_1 ha rfl (by omega) ?_
  refine v_ald0 dX1_init_45 ?_
  refine v_ild3 dX1_init_46 ?_
  refine v_putF dX1_init_47 fl_X1_34 rfl ft_1_2 ha rfl (by omega) ?_
  exact v_retV dX1_init_50 trivial ⟨rfl, rfl⟩

def i8I (I : Nat → Nat → Int32) : Nat → Nat → Int32 := u2 (u2 (u2 (u2 (u2 (u2 (u2 (u2 (u2 (u2 (u2 (u2 (u2 (u2 (u2 (u2 (fl2 (u2 (u2 (u2 (u2 (I) (4) 0 (nI 3)) (4) 1 (nI 2)) (4) 2 (nI 3)) (4) 3 (-1)) (11) 6 (-1)) (23) 1 (-1)) (23) 3 (-1)) (25) 1 (-1)) (25) 3 (-1)) (27) 1 (-1)) (27) 3 (-1)) (29) 1 (-1)) (29) 3 (-1)) (31) 1 (-1)) (31) 3 (-1)) (33) 1 (-1)) (33) 3 (-1)) (35) 1 (-1)) (35) 3 (-1)) (37) 1 (-1)) (37) 3 (-1)
def i8P (P : Nat → Nat → Option Nat) : Nat → Nat → Option Nat := u2 (u2 (u2 (u2 (u2 (u2 (u2 (u2 (u2 (u2 (u2 (u2 (u2 (u2 (u2 (u2 (u2 (u2 (u2 (u2 (u2 (u2 (u2 (u2 (u2 (u2 (u2 (u2 (u2 (u2 (u2 (u2 (u2 (u2 (u2 (u2 (u2 (u2 (P) (0) 0 (some (1))) (0) 1 (some (2))) (0) 2 (some (3))) (0) 3 (some (4))) (5) 0 (some (6))) (5) 1 (some (7))) (0) 4 (some (5))) (8) 0 (some (9))) (8) 1 (some (10))) (8) 2 (some (11))) (8) 3 (some (12))) (8) 4 (some (13))) (8) 5 (some (14))) (0) 5 (some (8))) (15) 0 (some (16))) (15) 1 (some (17))) (15) 2 (some (18))) (19) 0 (some (20))) (19) 1 (some (21))) (19) 2 (some (22))) (15) 3 (some (19))) (0) 6 (some (15))) (23) 0 (some (24))) (1) 0 (some (23))) (25) 0 (some (26))) (1) 1 (some (25))) (27) 0 (some (28))) (1) 2 (some (27))) (29) 0 (some (30))) (1) 3 (some (29))) (31) 0 (some (32))) (1) 4 (some (31))) (33) 0 (some (34))) (1) 5 (some (33))) (35) 0 (some (36))) (1) 6 (some (35))) (37) 0 (some (38))) (1) 7 (some (37))

set_option maxRecDepth 4000 in
theorem c_X8_init {G : GG} {I : Nat → Nat → Int32} {L : Nat → Nat → Int64} {P : Nat → Nat → Option Nat} (hz : ∀ x, 1 ≤ x → Z0 x I L P) : Cn G yX8_init cX8_init 2 none 3 38 550 [.ref 0] (1, I, L, P) (Is none (39, i8I I, L, i8P P)) := by
  refine Cn.of' (by decide) (Nat.le_of_ble_eq_true rfl) rfl ?_
  refine v_ald0 dX8_init_0 ?_
  refine v_objInit dX8_init_1 lo_X8_1 oi_inst oi_code (by decide) rfl ?_
  refine v_ald0 dX8_init_4 ?_
  refine v_bipush (v := nI 8) dX8_init_5 (by decide) ?_
  refine v_anew (n := 1) (t := 14) (t0 := 4) (C := RX4) (Or.inr rfl) rfl dX8_init_7 wc_X8_9 (Or.inr rfl) (show lay 1 = _ from rfl) rfl (by decide) (hz _ (by omega)) ?_
  refine v_putP dX8_init_10 fl_X8_11 rfl ft_8_0 (show lay 0 = _ from rfl) rfl (by omega) ?_
  refine v_ald0 dX8_init_13 ?_
  refine v_bipush (v := nI 24) dX8_init_14 (by decide) ?_
  refine v_anew (n := 2) (t := 13) (t0 := 3) (C := RX1) (Or.inl rfl) rfl dX8_init_16 wc_X8_15 (Or.inl rfl) (show lay 2 = _ from rfl) rfl (by decide) (Z0.uP (by omega) (hz _ (by omega))) ?_
  refine v_putP dX8_init_19 fl_X8_17 rfl ft_8_1 (show lay 0 = _ from rfl) rfl (by omega) ?_
  refine v_ald0 dX8_init_22 ?_
  refine v_bipush (v := nI 8) dX8_init_23 (by decide) ?_
  refine v_newaI (n := 3) dX8_init_25 ac_int (show lay 3 = _ from rfl) rfl (by decide) (Z0.uP (by omega) (Z0.uP (by omega) (hz _ (by omega)))) ?_
  refine v_putP dX8_init_27 fl_X8_21 rfl ft_8_2 (show lay 0 = _ from rfl) rfl (by omega) ?_
  refine v_ald0 dX8_init_30 ?_
  refine v_new (n := 4) dX8_init_31 cl_X8_25 (show lay 4 = _ from rfl) (Z0.uP (by omega) (Z0.uP (by omega) (Z0.uP (by omega) (hz _ (by omega))))) ?_
  refine v_dupR dX8_init_34 ?_
  refine V.invN (av := []) (o := 4) (c_X3_init (a := 4) (n := 5) (show lay 4 = _ from rfl) (by omega) (fun x hx => (Z0.uP (by omega) (Z0.uP (by omega) (Z0.uP (by omega) (hz x (by omega))))))) lk_X8_27 dX8_init_35 (by decide) (Nat.le_of_ble_eq_true rfl) rfl (fun r μ₁ h => ?_)
  obtain ⟨rfl, rfl⟩ := h
  refine v_putP dX8_init_38 fl_X8_28 rfl ft_8_3 (show lay 0 = _ from rfl) rfl (by omega) ?_
  refine v_ald0 dX8_init_41 ?_
  refine v_new (n := 5) dX8_init_42 cl_X8_32 (show lay 5 = _ from rfl) (Z0.uP (by omega) (Z0.uI (by omega) (Z0.uI (by omega) (Z0.uI (by omega) (Z0.uI (by omega) (Z0.uP (by omega) (Z0.uP (by omega) (Z0.uP (by omega) (hz _ (by omega)))))))))) ?_
  refine v_dupR dX8_init_45 ?_
  refine V.invN (av := []) (o := 5) (c_X0_init (a := 5) (n := 6) (show lay 5 = _ from rfl) (show lay 6 = _ from rfl) (show lay 7 = _ from rfl) (by omega) (fun x hx => (Z0.uP (by omega) (Z0.uI (by omega) (Z0.uI (by omega) (Z0.uI (by omega) (Z0.uI (by omega) (Z0.uP (by omega) (Z0.uP (by omega) (Z0.uP (by omega) (hz x (by omega)))))))))))) lk_X8_34 dX8_init_46 (by decide) (Nat.le_of_ble_eq_true rfl) rfl (fun r μ₁ h => ?_)
  obtain ⟨rfl, rfl⟩ := h
  refine v_putP dX8_init_49 fl_X8_35 rfl ft_8_4 (show lay 0 = _ from rfl) rfl (by omega) ?_
  refine v_ald0 dX8_init_52 ?_
  refine v_new (n := 8) dX8_init_53 cl_X8_39 (show lay 8 = _ from rfl) (Z0.uP (by omega) (Z0.uP (by omega) (Z0.uP (by omega) (Z0.uP (by omega) (Z0.uI (by omega) (Z0.uI (by omega) (Z0.uI (by omega) (Z0.uI (by omega) (Z0.uP (by omega) (Z0.uP (by omega) (Z0.uP (by omega) (hz _ (by omega))))))))))))) ?_
  refine v_dupR dX8_init_56 ?_
  refine V.invI (av := []) (o := 8) (c_X7_init (a := 8) (n := 9) (show lay 8 = _ from rfl) (show lay 9 = _ from rfl) (show lay 10 = _ from rfl) (show lay 11 = _ from rfl) (show lay 12 = _ from rfl) (show lay 13 = _ from rfl) (show lay 14 = _ from rfl) (by omega) (fun x hx => (Z0.uP (by omega) (Z0.uP (by omega) (Z0.uP (by omega) (Z0.uP (by omega) (Z0.uI (by omega) (Z0.uI (by omega) (Z0.uI (by omega) (Z0.uI (by omega) (Z0.uP (by omega) (Z0.uP (by omega) (Z0.uP (by omega) (hz x (by omega))))))))))))))) lk_X8_41 dX8_init_57 (by decide) (Nat.le_of_ble_eq_true rfl) rfl (fun r μ₁ h => ?_)
  obtain ⟨rfl, rfl⟩ := h
  refine v_putP dX8_init_60 fl_X8_42 rfl ft_8_5 (show lay 0 = _ from rfl) rfl (by omega) ?_
  refine v_ald0 dX8_init_63 ?_
  refine v_new (n := 15) dX8_init_64 cl_X8_46 (show lay 15 = _ from rfl) (Z0.uP (by omega) (Z0.fI (by omega) (Z0.uP (by omega) (Z0.uP (by omega) (Z0.uP (by omega) (Z0.uP (by omega) (Z0.uP (by omega) (Z0.uP (by omega) (Z0.uP (by omega) (Z0.uP (by omega) (Z0.uP (by omega) (Z0.uP (by omega) (Z0.uI (by omega) (Z0.uI (by omega) (Z0.uI (by omega) (Z0.uI (by omega) (Z0.uP (by omega) (Z0.uP (by omega) (Z0.uP (by omega) (hz _ (by omega))))))))))))))))))))) ?_
  refine v_dupR dX8_init_67 ?_
  refine V.invN (av := []) (o := 15) (c_X6_init (a := 15) (n := 16) (show lay 15 = _ from rfl) (show lay 16 = _ from rfl) (show lay 17 = _ from rfl) (show lay 18 = _ from rfl) (show lay 19 = _ from rfl) (show lay 20 = _ from rfl) (show lay 21 = _ from rfl) (show lay 22 = _ from rfl) (by omega) (fun x hx => (Z0.uP (by omega) (Z0.fI (by omega) (Z0.uP (by omega) (Z0.uP (by omega) (Z0.uP (by omega) (Z0.uP (by omega) (Z0.uP (by omega) (Z0.uP (by omega) (Z0.uP (by omega) (Z0.uP (by omega) (Z0.uP (by omega) (Z0.uP (by omega) (Z0.uI (by omega) (Z0.uI (by omega) (Z0.uI (by omega) (Z0.uI (by omega) (Z0.uP (by omega) (Z0.uP (by omega) (Z0.uP (by omega) (hz x (by omega))))))))))))))))))))))) lk_X8_48 dX8_init_68 (by decide) (Nat.le_of_ble_eq_true rfl) rfl (fun r μ₁ h => ?_)
  obtain ⟨rfl, rfl⟩ := h
  refine v_putP dX8_init_71 fl_X8_49 rfl ft_8_6 (show lay 0 = _ from rfl) rfl (by omega) ?_
  refine v_icN (n := 0) dX8_init_74 (by decide) ?_
  refine v_ist1 dX8_init_75 rfl ?_
  refine v_ild1 dX8_init_76 ?_
  refine v_bipush (v := nI 8) dX8_init_77 (by decide) ?_
  refine v_icmp_ge (tgt := 101) dX8_init_79 (by decide) (fun h => absurd h (nI_ge (by omega) (by decide))) (fun _ => ?_)
  refine v_ald0 dX8_init_82 ?_
  refine v_getP (q := 1) dX8_init_83 fl_X8_11 (show lay 0 = _ from rfl) rfl (by omega) (by rw [u2_k _ _ _ _ (by decide), u2_a _ _ _ _ (by omega), u2_a _ _ _ _ (by omega), u2_a _ _ _ _ (by omega), u2_a _ _ _ _ (by omega), u2_a _ _ _ _ (by omega), u2_a _ _ _ _ (by omega), u2_a _ _ _ _ (by omega), u2_k _ _ _ _ (by decide), u2_a _ _ _ _ (by omega), u2_a _ _ _ _ (by omega), u2_a _ _ _ _ (by omega), u2_a _ _ _ _ (by omega), u2_a _ _ _ _ (by omega), u2_a _ _ _ _ (by omega), u2_k _ _ _ _ (by decide), u2_a _ _ _ _ (by omega), u2_a _ _ _ _ (by omega), u2_k _ _ _ _ (by decide), u2_k _ _ _ _ (by decide), u2_k _ _ _ _ (by decide), u2_s]) ?_
  refine v_ild1 dX8_init_86 ?_
  refine v_new (n := 23) dX8_init_87 cl_X8_9 (show lay 23 = _ from rfl) (Z0.uP (by omega) (Z0.uP (by omega) (Z0.uP (by omega) (Z0.uP (by omega) (Z0.uP (by omega) (Z0.uP (by omega) (Z0.uP (by omega) (Z0.uP (by omega) (Z0.uP (by omega) (Z0.fI (by omega) (Z0.uP (by omega) (Z0.uP (by omega) (Z0.uP (by omega) (Z0.uP (by omega) (Z0.uP (by omega) (Z0.uP (by omega) (Z0.uP (by omega) (Z0.uP (by omega) (Z0.uP (by omega) (Z0.uP (by omega) (Z0.uI (by omega) (Z0.uI (by omega) (Z0.uI (by omega) (Z0.uI (by omega) (Z0.uP (by omega) (Z0.uP (by omega) (Z0.uP (by omega) (hz _ (by omega))))))))))))))))))))))))))))) ?_
  refine v_dupR dX8_init_90 ?_
  refine V.invN (av := []) (o := 23) (c_X4_init (a := 23) (n := 24) (show lay 23 = _ from rfl) (show lay 24 = _ from rfl) (by omega) (fun x hx => (Z0.uP (by omega) (Z0.uP (by omega) (Z0.uP (by omega) (Z0.uP (by omega) (Z0.uP (by omega) (Z0.uP (by omega) (Z0.uP (by omega) (Z0.uP (by omega) (Z0.uP (by omega) (Z0.fI (by omega) (Z0.uP (by omega) (Z0.uP (by omega) (Z0.uP (by omega) (Z0.uP (by omega) (Z0.uP (by omega) (Z0.uP (by omega) (Z0.uP (by omega) (Z0.uP (by omega) (Z0.uP (by omega) (Z0.uP (by omega) (Z0.uI (by omega) (Z0.uI (by omega) (Z0.uI (by omega) (Z0.uI (by omega) (Z0.uP (by omega) (Z0.uP (by omega) (Z0.uP (by omega) (hz x (by omega))))))))))))))))))))))))))))))) lk_X8_53 dX8_init_91 (by decide) (Nat.le_of_ble_eq_true rfl) rfl (fun r μ₁ h => ?_)
  obtain ⟨rfl, rfl⟩ := h
  refine V.aast (t := 14) (t0 := 4) (C := RX4) (T := TX4) (ci := 4) rfl rfl (by decide) (by decide) rfl dX8_init_94 rfl (by omega) rfl (by omega) ⟨rfl, by decide, by decide⟩ ?_
  refine v_inc1 dX8_init_95 rfl ?_
  rw [nI_1 0]
  refine v_goto (tgt := 76) dX8_init_98 (by decide) ?_
  refine v_ild1 dX8_init_76 ?_
  refine v_bipush (v := nI 8) dX8_init_77 (by decide) ?_
  refine v_icmp_ge (tgt := 101) dX8_init_79 (by decide) (fun h => absurd h (nI_ge (by omega) (by decide))) (fun _ => ?_)
  refine v_ald0 dX8_init_82 ?_
  refine v_getP (q := 1) dX8_init_83 fl_X8_11 (show lay 0 = _ from rfl) rfl (by omega) (by rw [u2_a _ _ _ _ (by omega), u2_a _ _ _ _ (by omega), u2_k _ _ _ _ (by decide), u2_a _ _ _ _ (by omega), u2_a _ _ _ _ (by omega), u2_a _ _ _ _ (by omega), u2_a _ _ _ _ (by omega), u2_a _ _ _ _ (by omega), u2_a _ _ _ _ (by omega), u2_a _ _ _ _ (by omega), u2_k _ _ _ _ (by decide), u2_a _ _ _ _ (by omega), u2_a _ _ _ _ (by omega), u2_a _ _ _ _ (by omega), u2_a _ _ _ _ (by omega), u2_a _ _ _ _ (by omega), u2_a _ _ _ _ (by omega), u2_k _ _ _ _ (by decide), u2_a _ _ _ _ (by omega), u2_a _ _ _ _ (by omega), u2_k _ _ _ _ (by decide), u2_k _ _ _ _ (by decide), u2_k _ _ _ _ (by decide), u2_s]) ?_
  refine v_ild1 dX8_init_86 ?_
  refine v_new (n := 25) dX8_init_87 cl_X8_9 (show lay 25 = _ from rfl) (Z0.uP (by omega) (Z0.uI (by omega) (Z0.uI (by omega) (Z0.uP (by omega) (Z0.uP (by omega) (Z0.uP (by omega) (Z0.uP (by omega) (Z0.uP (by omega) (Z0.uP (by omega) (Z0.uP (by omega) (Z0.uP (by omega) (Z0.uP (by omega) (Z0.uP (by omega) (Z0.fI (by omega) (Z0.uP (by omega) (Z0.uP (by omega) (Z0.uP (by omega) (Z0.uP (by omega) (Z0.uP (by omega) (Z0.uP (by omega) (Z0.uP (by omega) (Z0.uP (by omega) (Z0.uP (by omega) (Z0.uP (by omega) (Z0.uI (by omega) (Z0.uI (by omega) (Z0.uI (by omega) (Z0.uI (by omega) (Z0.uP (by omega) (Z0.uP (by omega) (Z0.uP (by omega) (hz _ (by omega))))))))))))))))))))))))))))))))) ?_
  refine v_dupR dX8_init_90 ?_
  refine V.invN (av := []) (o := 25) (c_X4_init (a := 25) (n := 26) (show lay 25 = _ from rfl) (show lay 26 = _ from rfl) (by omega) (fun x hx => (Z0.uP (by omega) (Z0.uI (by omega) (Z0.uI (by omega) (Z0.uP (by omega) (Z0.uP (by omega) (Z0.uP (by omega) (Z0.uP (by omega) (Z0.uP (by omega) (Z0.uP (by omega) (Z0.uP (by omega) (Z0.uP (by omega) (Z0.uP (by omega) (Z0.uP (by omega) (Z0.fI (by omega) (Z0.uP (by omega) (Z0.uP (by omega) (Z0.uP (by omega) (Z0.uP (by omega) (Z0.uP (by omega) (Z0.uP (by omega) (Z0.uP (by omega) (Z0.uP (by omega) (Z0.uP (by omega) (Z0.uP (by omega) (Z0.uI (by omega) (Z0.uI (by omega) (Z0.uI (by omega) (Z0.uI (by omega) (Z0.uP (by omega) (Z0.uP (by omega) (Z0.uP (by omega) (hz x (by omega))))))))))))))))))))))))))))))))))) lk_X8_53 dX8_init_91 (by decide) (Nat.le_of_ble_eq_true rfl) rfl (fun r μ₁ h => ?_)
  obtain ⟨rfl, rfl⟩ := h
  refine V.aast (t := 14) (t0 := 4) (C := RX4) (T := TX4) (ci := 4) rfl rfl (by decide) (by decide) rfl dX8_init_94 rfl (by omega) rfl (by omega) ⟨rfl, by decide, by decide⟩ ?_
  refine v_inc1 dX8_init_95 rfl ?_
  rw [nI_1 1]
  refine v_goto (tgt := 76) dX8_init_98 (by decide) ?_
  refine v_ild1 dX8_init_76 ?_
  refine v_bipush (v := nI 8) dX8_init_77 (by decide) ?_
  refine v_icmp_ge (tgt := 101) dX8_init_79 (by decide) (fun h => absurd h (nI_ge (by omega) (by decide))) (fun _ => ?_)
  refine v_ald0 dX8_init_82 ?_
  refine v_getP (q := 1) dX8_init_83 fl_X8_11 (show lay 0 = _ from rfl) rfl (by omega) (by rw [u2_a _ _ _ _ (by omega), u2_a _ _ _ _ (by omega), u2_a _ _ _ _ (by omega), u2_a _ _ _ _ (by omega), u2_k _ _ _ _ (by decide), u2_a _ _ _ _ (by omega), u2_a _ _ _ _ (by omega), u2_a _ _ _ _ (by omega), u2_a _ _ _ _ (by omega), u2_a _ _ _ _ (by omega), u2_a _ _ _ _ (by omega), u2_a _ _ _ _ (by omega), u2_k _ _ _ _ (by decide), u2_a _ _ _ _ (by omega), u2_a _ _ _ _ (by omega), u2_a _ _ _ _ (by omega), u2_a _ _ _ _ (by omega), u2_a _ _ _ _ (by omega), u2_a _ _ _ _ (by omega), u2_k _ _ _ _ (by decide), u2_a _ _ _ _ (by omega), u2_a _ _ _ _ (by omega), u2_k _ _ _ _ (by decide), u2_k _ _ _ _ (by decide), u2_k _ _ _ _ (by decide), u2_s]) ?_
  refine v_ild1 dX8_init_86 ?_
  refine v_new (n := 27) dX8_init_87 cl_X8_9 (show lay 27 = _ from rfl) (Z0.uP (by omega) (Z0.uI (by omega) (Z0.uI (by omega) (Z0.uP (by omega) (Z0.uP (by omega) (Z0.uI (by omega) (Z0.uI (by omega) (Z0.uP (by omega) (Z0.uP (by omega) (Z0.uP (by omega) (Z0.uP (by omega) (Z0.uP (by omega) (Z0.uP (by omega) (Z0.uP (by omega) (Z0.uP (by omega) (Z0.uP (by omega) (Z0.uP (by omega) (Z0.fI (by omega) (Z0.uP (by omega) (Z0.uP (by omega) (Z0.uP (by omega) (Z0.uP (by omega) (Z0.uP (by omega) (Z0.uP (by omega) (Z0.uP (by omega) (Z0.uP (by omega) (Z0.uP (by omega) (Z0.uP (by omega) (Z0.uI (by omega) (Z0.uI (by omega) (Z0.uI (by omega) (Z0.uI (by omega) (Z0.uP (by omega) (Z0.uP (by omega) (Z0.uP (by omega) (hz _ (by omega))))))))))))))))))))))))))))))))))))) ?_
  refine v_dupR dX8_init_90 ?_
  refine V.invN (av := []) (o := 27) (c_X4_init (a := 27) (n := 28) (show lay 27 = _ from rfl) (show lay 28 = _ from rfl) (by omega) (fun x hx => (Z0.uP (by omega) (Z0.uI (by omega) (Z0.uI (by omega) (Z0.uP (by omega) (Z0.uP (by omega) (Z0.uI (by omega) (Z0.uI (by omega) (Z0.uP (by omega) (Z0.uP (by omega) (Z0.uP (by omega) (Z0.uP (by omega) (Z0.uP (by omega) (Z0.uP (by omega) (Z0.uP (by omega) (Z0.uP (by omega) (Z0.uP (by omega) (Z0.uP (by omega) (Z0.fI (by omega) (Z0.uP (by omega) (Z0.uP (by omega) (Z0.uP (by omega) (Z0.uP (by omega) (Z0.uP (by omega) (Z0.uP (by omega) (Z0.uP (by omega) (Z0.uP (by omega) (Z0.uP (by omega) (Z0.uP (by omega) (Z0.uI (by omega) (Z0.uI (by omega) (Z0.uI (by omega) (Z0.uI (by omega) (Z0.uP (by omega) (Z0.uP (by omega) (Z0.uP (by omega) (hz x (by omega))))))))))))))))))))))))))))))))))))))) lk_X8_53 dX8_init_91 (by decide) (Nat.le_of_ble_eq_true rfl) rfl (fun r μ₁ h => ?_)
  obtain ⟨rfl, rfl⟩ := h
  refine V.aast (t := 14) (t0 := 4) (C := RX4) (T := TX4) (ci := 4) rfl rfl (by decide) (by decide) rfl dX8_init_94 rfl (by omega) rfl (by omega) ⟨rfl, by decide, by decide⟩ ?_
  refine v_inc1 dX8_init_95 rfl ?_
  rw [nI_1 2]
  refine v_goto (tgt := 76) dX8_init_98 (by decide) ?_
  refine v_ild1 dX8_init_76 ?_
  refine v_bipush (v := nI 8) dX8_init_77 (by decide) ?_
  refine v_icmp_ge (tgt := 101) dX8_init_79 (by decide) (fun h => absurd h (nI_ge (by omega) (by decide))) (fun _ => ?_)
  refine v_ald0 dX8_init_82 ?_
  refine v_getP (q := 1) dX8_init_83 fl_X8_11 (show lay 0 = _ from rfl) rfl (by omega) (by rw [u2_a _ _ _ _ (by omega), u2_a _ _ _ _ (by omega), u2_a _ _ _ _ (by omega), u2_a _ _ _ _ (by omega), u2_a _ _ _ _ (by omega), u2_a _ _ _ _ (by omega), u2_k _ _ _ _ (by decide), u2_a _ _ _ _ (by omega), u2_a _ _ _ _ (by omega), u2_a _ _ _ _ (by omega), u2_a _ _ _ _ (by omega), u2_a _ _ _ _ (by omega), u2_a _ _ _ _ (by omega), u2_a _ _ _ _ (by omega), u2_k _ _ _ _ (by decide), u2_a _ _ _ _ (by omega), u2_a _ _ _ _ (by omega), u2_a _ _ _ _ (by omega), u2_a _ _ _ _ (by omega), u2_a _ _ _ _ (by omega), u2_a _ _ _ _ (by omega), u2_k _ _ _ _ (by decide), u2_a _ _ _ _ (by omega), u2_a _ _ _ _ (by omega), u2_k _ _ _ _ (by decide), u2_k _ _ _ _ (by decide), u2_k _ _ _ _ (by decide), u2_s]) ?_
  refine v_ild1 dX8_init_86 ?_
  refine v_new (n := 29) dX8_init_87 cl_X8_9 (show lay 29 = _ from rfl) (Z0.uP (by omega) (Z0.uI (by omega) (Z0.uI (by omega) (Z0.uP (by omega) (Z0.uP (by omega) (Z0.uI (by omega) (Z0.uI (by omega) (Z0.uP (by omega) (Z0.uP (by omega) (Z0.uI (by omega) (Z0.uI (by omega) (Z0.uP (by omega) (Z0.uP (by omega) (Z0.uP (by omega) (Z0.uP (by omega) (Z0.uP (by omega) (Z0.uP (by omega) (Z0.uP (by omega) (Z0.uP (by omega) (Z0.uP (by omega) (Z0.uP (by omega) (Z0.fI (by omega) (Z0.uP (by omega) (Z0.uP (by omega) (Z0.uP (by omega) (Z0.uP (by omega) (Z0.uP (by omega) (Z0.uP (by omega) (Z0.uP (by omega) (Z0.uP (by omega) (Z0.uP (by omega) (Z0.uP (by omega) (Z0.uI (by omega) (Z0.uI (by omega) (Z0.uI (by omega) (Z0.uI (by omega) (Z0.uP (by omega) (Z0.uP (by omega) (Z0.uP (by omega) (hz _ (by omega))))))))))))))))))))))))))))))))))))))))) ?_
  refine v_dupR dX8_init_90 ?_
  refine V.invN (av := []) (o := 29) (c_X4_init (a := 29) (n := 30) (show lay 29 = _ from rfl) (show lay 30 = _ from rfl) (by omega) (fun x hx => (Z0.uP (by omega) (Z0.uI (by omega) (Z0.uI (by omega) (Z0.uP (by omega) (Z0.uP (by omega) (Z0.uI (by omega) (Z0.uI (by omega) (Z0.uP (by omega) (Z0.uP (by omega) (Z0.uI (by omega) (Z0.uI (by omega) (Z0.uP (by omega) (Z0.uP (by omega) (Z0.uP (by omega) (Z0.uP (by omega) (Z0.uP (by omega) (Z0.uP (by omega) (Z0.uP (by omega) (Z0.uP (by omega) (Z0.uP (by omega) (Z0.uP (by omega) (Z0.fI (by omega) (Z0.uP (by omega) (Z0.uP (by omega) (Z0.uP (by omega) (Z0.uP (by omega) (Z0.uP (by omega) (Z0.uP (by omega) (Z0.uP (by omega) (Z0.uP (by omega) (Z0.uP (by omega) (Z0.uP (by omega) (Z0.uI (by omega) (Z0.uI (by omega) (Z0.uI (by omega) (Z0.uI (by omega) (Z0.uP (by omega) (Z0.uP (by omega) (Z0.uP (by omega) (hz x (by omega))))))))))))))))))))))))))))))))))))))))))) lk_X8_53 dX8_init_91 (by decide) (Nat.le_of_ble_eq_true rfl) rfl (fun r μ₁ h => ?_)
  obtain ⟨rfl, rfl⟩ := h
  refine V.aast (t := 14) (t0 := 4) (C := RX4) (T := TX4) (ci := 4) rfl rfl (by decide) (by decide) rfl dX8_init_94 rfl (by omega) rfl (by omega) ⟨rfl, by decide, by decide⟩ ?_
  refine v_inc1 dX8_init_95 rfl ?_
  rw [nI_1 3]
  refine v_goto (tgt := 76) dX8_init_98 (by decide) ?_
  refine v_ild1 dX8_init_76 ?_
  refine v_bipush (v := nI 8) dX8_init_77 (by decide) ?_
  refine v_icmp_ge (tgt := 101) dX8_init_79 (by decide) (fun h => absurd h (nI_ge (by omega) (by decide))) (fun _ => ?_)
  refine v_ald0 dX8_init_82 ?_
  refine v_getP (q := 1) dX8_init_83 fl_X8_11 (show lay 0 = _ from rfl) rfl (by omega) (by rw [u2_a _ _ _ _ (by omega), u2_a _ _ _ _ (by omega), u2_a _ _ _ _ (by omega), u2_a _ _ _ _ (by omega), u2_a _ _ _ _ (by omega), u2_a _ _ _ _ (by omega), u2_a _ _ _ _ (by omega), u2_a _ _ _ _ (by omega), u2_k _ _ _ _ (by decide), u2_a _ _ _ _ (by omega), u2_a _ _ _ _ (by omega), u2_a _ _ _ _ (by omega), u2_a _ _ _ _ (by omega), u2_a _ _ _ _ (by omega), u2_a _ _ _ _ (by omega), u2_a _ _ _ _ (by omega), u2_k _ _ _ _ (by decide), u2_a _ _ _ _ (by omega), u2_a _ _ _ _ (by omega), u2_a _ _ _ _ (by omega), u2_a _ _ _ _ (by omega), u2_a _ _ _ _ (by omega), u2_a _ _ _ _ (by omega), u2_k _ _ _ _ (by decide), u2_a _ _ _ _ (by omega), u2_a _ _ _ _ (by omega), u2_k _ _ _ _ (by decide), u2_k _ _ _ _ (by decide), u2_k _ _ _ _ (by decide), u2_s]) ?_
  refine v_ild1 dX8_init_86 ?_
  refine v_new (n := 31) dX8_init_87 cl_X8_9 (show lay 31 = _ from rfl) (Z0.uP (by omega) (Z0.uI (by omega) (Z0.uI (by omega) (Z0.uP (by omega) (Z0.uP (by omega) (Z0.uI (by omega) (Z0.uI (by omega) (Z0.uP (by omega) (Z0.uP (by omega) (Z0.uI (by omega) (Z0.uI (by omega) (Z0.uP (by omega) (Z0.uP (by omega) (Z0.uI (by omega) (Z0.uI (by omega) (Z0.uP (by omega) (Z0.uP (by omega) (Z0.uP (by omega) (Z0.uP (by omega) (Z0.uP (by omega) (Z0.uP (by omega) (Z0.uP (by omega) (Z0.uP (by omega) (Z0.uP (by omega) (Z0.uP (by omega) (Z0.fI (by omega) (Z0.uP (by omega) (Z0.uP (by omega) (Z0.uP (by omega) (Z0.uP (by omega) (Z0.uP (by omega) (Z0.uP (by omega) (Z0.uP (by omega) (Z0.uP (by omega) (Z0.uP (by omega) (Z0.uP (by omega) (Z0.uI (by omega) (Z0.uI (by omega) (Z0.uI (by omega) (Z0.uI (by omega) (Z0.uP (by omega) (Z0.uP (by omega) (Z0.uP (by omega) (hz _ (by omega))))))))))))))))))))))))))))))))))))))))))))) ?_
  refine v_dupR dX8_init_90 ?_
  refine V.invN (av := []) (o := 31) (c_X4_init (a := 31) (n := 32) (show lay 31 = _ from rfl) (show lay 32 = _ from rfl) (by omega) (fun x hx => (Z0.uP (by omega) (Z0.uI (by omega) (Z0.uI (by omega) (Z0.uP (by omega) (Z0.uP (by omega) (Z0.uI (by omega) (Z0.uI (by omega) (Z0.uP (by omega) (Z0.uP (by omega) (Z0.uI (by omega) (Z0.uI (by omega) (Z0.uP (by omega) (Z0.uP (by omega) (Z0.uI (by omega) (Z0.uI (by omega) (Z0.uP (by omega) (Z0.uP (by omega) (Z0.uP (by omega) (Z0.uP (by omega) (Z0.uP (by omega) (Z0.uP (by omega) (Z0.uP (by omega) (Z0.uP (by omega) (Z0.uP (by omega) (Z0.uP (by omega) (Z0.fI (by omega) (Z0.uP (by omega) (Z0.uP (by omega) (Z0.uP (by omega) (Z0.uP (by omega) (Z0.uP (by omega) (Z0.uP (by omega) (Z0.uP (by omega) (Z0.uP (by omega) (Z0.uP (by omega) (Z0.uP (by omega) (Z0.uI (by omega) (Z0.uI (by omega) (Z0.uI (by omega) (Z0.uI (by omega) (Z0.uP (by omega) (Z0.uP (by omega) (Z0.uP (by omega) (hz x (by omega))))))))))))))))))))))))))))))))))))))))))))))) lk_X8_53 dX8_init_91 (by decide) (Nat.le_of_ble_eq_true rfl) rfl (fun r μ₁ h => ?_)
  obtain ⟨rfl, rfl⟩ := h
  refine V.aast (t := 14) (t0 := 4) (C := RX4) (T := TX4) (ci := 4) rfl rfl (by decide) (by decide) rfl dX8_init_94 rfl (by omega) rfl (by omega) ⟨rfl, by decide, by decide⟩ ?_
  refine v_inc1 dX8_init_95 rfl ?_
  rw [nI_1 4]
  refine v_goto (tgt := 76) dX8_init_98 (by decide) ?_
  refine v_ild1 dX8_init_76 ?_
  refine v_bipush (v := nI 8) dX8_init_77 (by decide) ?_
  refine v_icmp_ge (tgt := 101) dX8_init_79 (by decide) (fun h => absurd h (nI_ge (by omega) (by decide))) (fun _ => ?_)
  refine v_ald0 dX8_init_82 ?_
  refine v_getP (q := 1) dX8_init_83 fl_X8_11 (show lay 0 = _ from rfl) rfl (by omega) (by rw [u2_a _ _ _ _ (by omega), u2_a _ _ _ _ (by omega), u2_a _ _ _ _ (by omega), u2_a _ _ _ _ (by omega), u2_a _ _ _ _ (by omega), u2_a _ _ _ _ (by omega), u2_a _ _ _ _ (by omega), u2_a _ _ _ _ (by omega), u2_a _ _ _ _ (by omega), u2_a _ _ _ _ (by omega), u2_k _ _ _ _ (by decide), u2_a _ _ _ _ (by omega), u2_a _ _ _ _ (by omega), u2_a _ _ _ _ (by omega), u2_a _ _ _ _ (by omega), u2_a _ _ _ _ (by omega), u2_a _ _ _ _ (by omega), u2_a _ _ _ _ (by omega), u2_k _ _ _ _ (by decide), u2_a _ _ _ _ (by omega), u2_a _ _ _ _ (by omega), u2_a _ _ _ _ (by omega), u2_a _ _ _ _ (by omega), u2_a _ _ _ _ (by omega), u2_a _ _ _ _ (by omega), u2_k _ _ _ _ (by decide), u2_a _ _ _ _ (by omega), u2_a _ _ _ _ (by omega), u2_k _ _ _ _ (by decide), u2_k _ _ _ _ (by decide), u2_k _ _ _ _ (by decide), u2_s]) ?_
  refine v_ild1 dX8_init_86 ?_
  refine v_new (n := 33) dX8_init_87 cl_X8_9 (show lay 33 = _ from rfl) (Z0.uP (by omega) (Z0.uI (by omega) (Z0.uI (by omega) (Z0.uP (by omega) (Z0.uP (by omega) (Z0.uI (by omega) (Z0.uI (by omega) (Z0.uP (by omega) (Z0.uP (by omega) (Z0.uI (by omega) (Z0.uI (by omega) (Z0.uP (by omega) (Z0.uP (by omega) (Z0.uI (by omega) (Z0.uI (by omega) (Z0.uP (by omega) (Z0.uP (by omega) (Z0.uI (by omega) (Z0.uI (by omega) (Z0.uP (by omega) (Z0.uP (by omega) (Z0.uP (by omega) (Z0.uP (by omega) (Z0.uP (by omega) (Z0.uP (by omega) (Z0.uP (by omega) (Z0.uP (by omega) (Z0.uP (by omega) (Z0.uP (by omega) (Z0.fI (by omega) (Z0.uP (by omega) (Z0.uP (by omega) (Z0.uP (by omega) (Z0.uP (by omega) (Z0.uP (by omega) (Z0.uP (by omega) (Z0.uP (by omega) (Z0.uP (by omega) (Z0.uP (by omega) (Z0.uP (by omega) (Z0.uI (by omega) (Z0.uI (by omega) (Z0.uI (by omega) (Z0.uI (by omega) (Z0.uP (by omega) (Z0.uP (by omega) (Z0.uP (by omega) (hz _ (by omega))))))))))))))))))))))))))))))))))))))))))))))))) ?_
  refine v_dupR dX8_init_90 ?_
  refine V.invN (av := []) (o := 33) (c_X4_init (a := 33) (n := 34) (show lay 33 = _ from rfl) (show lay 34 = _ from rfl) (by omega) (fun x hx => (Z0.uP (by omega) (Z0.uI (by omega) (Z0.uI (by omega) (Z0.uP (by omega) (Z0.uP (by omega) (Z0.uI (by omega) (Z0.uI (by omega) (Z0.uP (by omega) (Z0.uP (by omega) (Z0.uI (by omega) (Z0.uI (by omega) (Z0.uP (by omega) (Z0.uP (by omega) (Z0.uI (by omega) (Z0.uI (by omega) (Z0.uP (by omega) (Z0.uP (by omega) (Z0.uI (by omega) (Z0.uI (by omega) (Z0.uP (by omega) (Z0.uP (by omega) (Z0.uP (by omega) (Z0.uP (by omega) (Z0.uP (by omega) (Z0.uP (by omega) (Z0.uP (by omega) (Z0.uP (by omega) (Z0.uP (by omega) (Z0.uP (by omega) (Z0.fI (by omega) (Z0.uP (by omega) (Z0.uP (by omega) (Z0.uP (by omega) (Z0.uP (by omega) (Z0.uP (by omega) (Z0.uP (by omega) (Z0.uP (by omega) (Z0.uP (by omega) (Z0.uP (by omega) (Z0.uP (by omega) (Z0.uI (by omega) (Z0.uI (by omega) (Z0.uI (by omega) (Z0.uI (by omega) (Z0.uP (by omega) (Z0.uP (by omega) (Z0.uP (by omega) (hz x (by omega))))))))))))))))))))))))))))))))))))))))))))))))))) lk_X8_53 dX8_init_91 (by decide) (Nat.le_of_ble_eq_true rfl) rfl (fun r μ₁ h => ?_)
  obtain ⟨rfl, rfl⟩ := h
  refine V.aast (t := 14) (t0 := 4) (C := RX4) (T := TX4) (ci := 4) rfl rfl (by decide) (by decide) rfl dX8_init_94 rfl (by omega) rfl (by omega) ⟨rfl, by decide, by decide⟩ ?_
  refine v_inc1 dX8_init_95 rfl ?_
  rw [nI_1 5]
  refine v_goto (tgt := 76) dX8_init_98 (by decide) ?_
  refine v_ild1 dX8_init_76 ?_
  refine v_bipush (v := nI 8) dX8_init_77 (by decide) ?_
  refine v_icmp_ge (tgt := 101) dX8_init_79 (by decide) (fun h => absurd h (nI_ge (by omega) (by decide))) (fun _ => ?_)
  refine v_ald0 dX8_init_82 ?_
  refine v_getP (q := 1) dX8_init_83 fl_X8_11 (show lay 0 = _ from rfl) rfl (by omega) (by rw [u2_a _ _ _ _ (by omega), u2_a _ _ _ _ (by omega), u2_a _ _ _ _ (by omega), u2_a _ _ _ _ (by omega), u2_a _ _ _ _ (by omega), u2_a _ _ _ _ (by omega), u2_a _ _ _ _ (by omega), u2_a _ _ _ _ (by omega), u2_a _ _ _ _ (by omega), u2_a _ _ _ _ (by omega), u2_a _ _ _ _ (by omega), u2_a _ _ _ _ (by omega), u2_k _ _ _ _ (by decide), u2_a _ _ _ _ (by omega), u2_a _ _ _ _ (by omega), u2_a _ _ _ _ (by omega), u2_a _ _ _ _ (by omega), u2_a _ _ _ _ (by omega), u2_a _ _ _ _ (by omega), u2_a _ _ _ _ (by omega), u2_k _ _ _ _ (by decide), u2_a _ _ _ _ (by omega), u2_a _ _ _ _ (by omega), u2_a _ _ _ _ (by omega), u2_a _ _ _ _ (by omega), u2_a _ _ _ _ (by omega), u2_a _ _ _ _ (by omega), u2_k _ _ _ _ (by decide), u2_a _ _ _ _ (by omega), u2_a _ _ _ _ (by omega), u2_k _ _ _ _ (by decide), u2_k _ _ _ _ (by decide), u2_k _ _ _ _ (by decide), u2_s]) ?_
  refine v_ild1 dX8_init_86 ?_
  refine v_new (n := 35) dX8_init_87 cl_X8_9 (show lay 35 = _ from rfl) (Z0.uP (by omega) (Z0.uI (by omega) (Z0.uI (by omega) (Z0.uP (by omega) (Z0.uP (by omega) (Z0.uI (by omega) (Z0.uI (by omega) (Z0.uP (by omega) (Z0.uP (by omega) (Z0.uI (by omega) (Z0.uI (by omega) (Z0.uP (by omega) (Z0.uP (by omega) (Z0.uI (by omega) (Z0.uI (by omega) (Z0.uP (by omega) (Z0.uP (by omega) (Z0.uI (by omega) (Z0.uI (by omega) (Z0.uP (by omega) (Z0.uP (by omega) (Z0.uI (by omega) (Z0.uI (by omega) (Z0.uP (by omega) (Z0.uP (by omega) (Z0.uP (by omega) (Z0.uP (by omega) (Z0.uP (by omega) (Z0.uP (by omega) (Z0.uP (by omega) (Z0.uP (by omega) (Z0.uP (by omega) (Z0.uP (by omega) (Z0.fI (by omega) (Z0.uP (by omega) (Z0.uP (by omega) (Z0.uP (by omega) (Z0.uP (by omega) (Z0.uP (by omega) (Z0.uP (by omega) (Z0.uP (by omega) (Z0.uP (by omega) (Z0.uP (by omega) (Z0.uP (by omega) (Z0.uI (by omega) (Z0.uI (by omega) (Z0.uI (by omega) (Z0.uI (by omega) (Z0.uP (by omega) (Z0.uP (by omega) (Z0.uP (by omega) (hz _ (by omega))))))))))))))))))))))))))))))))))))))))))))))))))))) ?_
  refine v_dupR dX8_init_90 ?_
  refine V.invN (av := []) (o := 35) (c_X4_init (a := 35) (n := 36) (show lay 35 = _ from rfl) (show lay 36 = _ from rfl) (by omega) (fun x hx => (Z0.uP (by omega) (Z0.uI (by omega) (Z0.uI (by omega) (Z0.uP (by omega) (Z0.uP (by omega) (Z0.uI (by omega) (Z0.uI (by omega) (Z0.uP (by omega) (Z0.uP (by omega) (Z0.uI (by omega) (Z0.uI (by omega) (Z0.uP (by omega) (Z0.uP (by omega) (Z0.uI (by omega) (Z0.uI (by omega) (Z0.uP (by omega) (Z0.uP (by omega) (Z0.uI (by omega) (Z0.uI (by omega) (Z0.uP (by omega) (Z0.uP (by omega) (Z0.uI (by omega) (Z0.uI (by omega) (Z0.uP (by omega) (Z0.uP (by omega) (Z0.uP (by omega) (Z0.uP (by omega) (Z0.uP (by omega) (Z0.uP (by omega) (Z0.uP (by omega) (Z0.uP (by omega) (Z0.uP (by omega) (Z0.uP (by omega) (Z0.fI (by omega) (Z0.uP (by omega) (Z0.uP (by omega) (Z0.uP (by omega) (Z0.uP (by omega) (Z0.uP (by omega) (Z0.uP (by omega) (Z0.uP (by omega) (Z0.uP (by omega) (Z0.uP (by omega) (Z0.uP (by omega) (Z0.uI (by omega) (Z0.uI (by omega) (Z0.uI (by omega) (Z0.uI (by omega) (Z0.uP (by omega) (Z0.uP (by omega) (Z0.uP (by omega) (hz x (by omega))))))))))))))))))))))))))))))))))))))))))))))))))))))) lk_X8_53 dX8_init_91 (by decide) (Nat.le_of_ble_eq_true rfl) rfl (fun r μ₁ h => ?_)
  obtain ⟨rfl, rfl⟩ := h
  refine V.aast (t := 14) (t0 := 4) (C := RX4) (T := TX4) (ci := 4) rfl rfl (by decide) (by decide) rfl dX8_init_94 rfl (by omega) rfl (by omega) ⟨rfl, by decide, by decide⟩ ?_
  refine v_inc1 dX8_init_95 rfl ?_
  rw [nI_1 6]
  refine v_goto (tgt := 76) dX8_init_98 (by decide) ?_
  refine v_ild1 dX8_init_76 ?_
  refine v_bipush (v := nI 8) dX8_init_77 (by decide) ?_
  refine v_icmp_ge (tgt := 101) dX8_init_79 (by decide) (fun h => absurd h (nI_ge (by omega) (by decide))) (fun _ => ?_)
  refine v_ald0 dX8_init_82 ?_
  refine v_getP (q := 1) dX8_init_83 fl_X8_11 (show lay 0 = _ from rfl) rfl (by omega) (by rw [u2_a _ _ _ _ (by omega), u2_a _ _ _ _ (by omega), u2_a _ _ _ _ (by omega), u2_a _ _ _ _ (by omega), u2_a _ _ _ _ (by omega), u2_a _ _ _ _ (by omega), u2_a _ _ _ _ (by omega), u2_a _ _ _ _ (by omega), u2_a _ _ _ _ (by omega), u2_a _ _ _ _ (by omega), u2_a _ _ _ _ (by omega), u2_a _ _ _ _ (by omega), u2_a _ _ _ _ (by omega), u2_a _ _ _ _ (by omega), u2_k _ _ _ _ (by decide), u2_a _ _ _ _ (by omega), u2_a _ _ _ _ (by omega), u2_a _ _ _ _ (by omega), u2_a _ _ _ _ (by omega), u2_a _ _ _ _ (by omega), u2_a _ _ _ _ (by omega), u2_a _ _ _ _ (by omega), u2_k _ _ _ _ (by decide), u2_a _ _ _ _ (by omega), u2_a _ _ _ _ (by omega), u2_a _ _ _ _ (by omega), u2_a _ _ _ _ (by omega), u2_a _ _ _ _ (by omega), u2_a _ _ _ _ (by omega), u2_k _ _ _ _ (by decide), u2_a _ _ _ _ (by omega), u2_a _ _ _ _ (by omega), u2_k _ _ _ _ (by decide), u2_k _ _ _ _ (by decide), u2_k _ _ _ _ (by decide), u2_s]) ?_
  refine v_ild1 dX8_init_86 ?_
  refine v_new (n := 37) dX8_init_87 cl_X8_9 (show lay 37 = _ from rfl) (Z0.uP (by omega) (Z0.uI (by omega) (Z0.uI (by omega) (Z0.uP (by omega) (Z0.uP (by omega) (Z0.uI (by omega) (Z0.uI (by omega) (Z0.uP (by omega) (Z0.uP (by omega) (Z0.uI (by omega) (Z0.uI (by omega) (Z0.uP (by omega) (Z0.uP (by omega) (Z0.uI (by omega) (Z0.uI (by omega) (Z0.uP (by omega) (Z0.uP (by omega) (Z0.uI (by omega) (Z0.uI (by omega) (Z0.uP (by omega) (Z0.uP (by omega) (Z0.uI (by omega) (Z0.uI (by omega) (Z0.uP (by omega) (Z0.uP (by omega) (Z0.uI (by omega) (Z0.uI (by omega) (Z0.uP (by omega) (Z0.uP (by omega) (Z0.uP (by omega) (Z0.uP (by omega) (Z0.uP (by omega) (Z0.uP (by omega) (Z0.uP (by omega) (Z0.uP (by omega) (Z0.uP (by omega) (Z0.uP (by omega) (Z0.fI (by omega) (Z0.uP (by omega) (Z0.uP (by omega) (Z0.uP (by omega) (Z0.uP (by omega) (Z0.uP (by omega) (Z0.uP (by omega) (Z0.uP (by omega) (Z0.uP (by omega) (Z0.uP (by omega) (Z0.uP (by omega) (Z0.uI (by omega) (Z0.uI (by omega) (Z0.uI (by omega) (Z0.uI (by omega) (Z0.uP (by omega) (Z0.uP (by omega) (Z0.uP (by omega) (hz _ (by omega))))))))))))))))))))))))))))))))))))))))))))))))))))))))) ?_
  refine v_dupR dX8_init_90 ?_
  refine V.invN (av := []) (o := 37) (c_X4_init (a := 37) (n := 38) (show lay 37 = _ from rfl) (show lay 38 = _ from rfl) (by omega) (fun x hx => (Z0.uP (by omega) (Z0.uI (by omega) (Z0.uI (by omega) (Z0.uP (by omega) (Z0.uP (by omega) (Z0.uI (by omega) (Z0.uI (by omega) (Z0.uP (by omega) (Z0.uP (by omega) (Z0.uI (by omega) (Z0.uI (by omega) (Z0.uP (by omega) (Z0.uP (by omega) (Z0.uI (by omega) (Z0.uI (by omega) (Z0.uP (by omega) (Z0.uP (by omega) (Z0.uI (by omega) (Z0.uI (by omega) (Z0.uP (by omega) (Z0.uP (by omega) (Z0.uI (by omega) (Z0.uI (by omega) (Z0.uP (by omega) (Z0.uP (by omega) (Z0.uI (by omega) (Z0.uI (by omega) (Z0.uP (by omega) (Z0.uP (by omega) (Z0.uP (by omega) (Z0.uP (by omega) (Z0.uP (by omega) (Z0.uP (by omega) (Z0.uP (by omega) (Z0.uP (by omega) (Z0.uP (by omega) (Z0.uP (by omega) (Z0.fI (by omega) (Z0.uP (by omega) (Z0.uP (by omega) (Z0.uP (by omega) (Z0.uP (by omega) (Z0.uP (by omega) (Z0.uP (by omega) (Z0.uP (by omega) (Z0.uP (by omega) (Z0.uP (by omega) (Z0.uP (by omega) (Z0.uI (by omega) (Z0.uI (by omega) (Z0.uI (by omega) (Z0.uI (by omega) (Z0.uP (by omega) (Z0.uP (by omega) (Z0.uP (by omega) (hz x (by omega))))))))))))))))))))))))))))))))))))))))))))))))))))))))))) lk_X8_53 dX8_init_91 (by decide) (Nat.le_of_ble_eq_true rfl) rfl (fun r μ₁ h => ?_)
  obtain ⟨rfl, rfl⟩ := h
  refine V.aast (t := 14) (t0 := 4) (C := RX4) (T := TX4) (ci := 4) rfl rfl (by decide) (by decide) rfl dX8_init_94 rfl (by omega) rfl (by omega) ⟨rfl, by decide, by decide⟩ ?_
  refine v_inc1 dX8_init_95 rfl ?_
  rw [nI_1 7]
  refine v_goto (tgt := 76) dX8_init_98 (by decide) ?_
  refine v_ild1 dX8_init_76 ?_
  refine v_bipush (v := nI 8) dX8_init_77 (by decide) ?_
  refine v_icmp_ge (tgt := 101) dX8_init_79 (by decide) (fun _ => ?_) (fun h => absurd (nI_le (by omega) (by decide)) h)
  exact v_retV dX8_init_101 trivial ⟨rfl, rfl⟩

def i9I (I : Nat → Nat → Int32) : Nat → Nat → Int32 := u2 (u2 (u2 (u2 (u2 (u2 (u2 (u2 (u2 (u2 (I) (39) 18 (nI 3)) (39) 19 (nI 2)) (39) 20 (nI 3)) (39) 21 (-1)) (68) 0 (-1)) (68) 1 (-1)) (68) 2 (-1)) (68) 3 (-1)) (68) 4 (-1)) (68) 5 (-1)
def i9P (P : Nat → Nat → Option Nat) : Nat → Nat → Option Nat := u2 (u2 (u2 (u2 (u2 (u2 (u2 (u2 (u2 (u2 (u2 (u2 (u2 (u2 (u2 (u2 (u2 (u2 (u2 (u2 (u2 (u2 (u2 (u2 (u2 (u2 (u2 (u2 (u2 (u2 (u2 (u2 (u2 (u2 (u2 (u2 (u2 (u2 (P) (39) 0 (some (40))) (39) 1 (some (41))) (39) 2 (some (42))) (39) 3 (some (43))) (39) 4 (some (44))) (39) 5 (some (45))) (39) 6 (some (46))) (39) 7 (some (47))) (39) 8 (some (48))) (39) 9 (some (49))) (39) 10 (some (50))) (39) 11 (some (51))) (39) 12 (some (52))) (39) 13 (some (53))) (39) 14 (some (54))) (39) 15 (some (55))) (39) 16 (some (56))) (39) 23 (some (57))) (39) 24 (some (58))) (39) 25 (some (59))) (39) 26 (some (60))) (39) 27 (some (61))) (39) 28 (some (62))) (39) 29 (some (63))) (39) 30 (some (64))) (39) 31 (some (65))) (39) 32 (some (66))) (39) 33 (some (67))) (39) 34 (some (68))) (39) 35 (some (69))) (39) 37 (some (70))) (39) 38 (some (71))) (39) 39 (some (72))) (39) 40 (some (73))) (39) 41 (some (74))) (39) 43 (some (75))) (39) 44 (some (76))) (39) 45 (some (77))

set_option maxRecDepth 4000 in
theorem c_X9_init {G : GG} {I : Nat → Nat → Int32} {L : Nat → Nat → Int64} {P : Nat → Nat → Option Nat} (hz : ∀ x, 40 ≤ x → Z0 x I L P) : Cn G yX9_init cX9_init 2 none 1 38 1750 [.ref 39] (40, I, L, P) (Is none (78, i9I I, L, i9P P)) := by
  refine Cn.of' (by decide) (Nat.le_of_ble_eq_true rfl) rfl ?_
  refine v_ald0 dX9_init_0 ?_
  refine v_objInit dX9_init_1 lo_X9_1 oi_inst oi_code (by decide) rfl ?_
  refine v_ald0 dX9_init_4 ?_
  refine v_bipush (v := nI 24) dX9_init_5 (by decide) ?_
  refine v_newaI (n := 40) dX9_init_7 ac_int (show lay 40 = _ from rfl) rfl (by decide) (hz _ (by omega)) ?_
  refine v_putP dX9_init_9 fl_X9_7 rfl ft_9_0 (show lay 39 = _ from rfl) rfl (by omega) ?_
  refine v_ald0 dX9_init_12 ?_
  refine v_bipush (v := nI 24) dX9_init_13 (by decide) ?_
  refine v_newaI (n := 41) dX9_init_15 ac_int (show lay 41 = _ from rfl) rfl (by decide) (Z0.uP (by omega) (hz _ (by omega))) ?_
  refine v_putP dX9_init_17 fl_X9_13 rfl ft_9_1 (show lay 39 = _ from rfl) rfl (by omega) ?_
  refine v_ald0 dX9_init_20 ?_
  refine v_bipush (v := nI 24) dX9_init_21 (by decide) ?_
  refine v_newaI (n := 42) dX9_init_23 ac_int (show lay 42 = _ from rfl) rfl (by decide) (Z0.uP (by omega) (Z0.uP (by omega) (hz _ (by omega)))) ?_
  refine v_putP dX9_init_25 fl_X9_16 rfl ft_9_2 (show lay 39 = _ from rfl) rfl (by omega) ?_
  refine v_ald0 dX9_init_28 ?_
  refine v_bipush (v := nI 24) dX9_init_29 (by decide) ?_
  refine v_newaI (n := 43) dX9_init_31 ac_int (show lay 43 = _ from rfl) rfl (by decide) (Z0.uP (by omega) (Z0.uP (by omega) (Z0.uP (by omega) (hz _ (by omega))))) ?_
  refine v_putP dX9_init_33 fl_X9_19 rfl ft_9_3 (show lay 39 = _ from rfl) rfl (by omega) ?_
  refine v_ald0 dX9_init_36 ?_
  refine v_sipush (v := nI 288) dX9_init_37 (by decide) ?_
  refine v_newaI (n := 44) dX9_init_40 ac_int (show lay 44 = _ from rfl) rfl (by decide) (Z0.uP (by omega) (Z0.uP (by omega) (Z0.uP (by omega) (Z0.uP (by omega) (hz _ (by omega)))))) ?_
  refine v_putP dX9_init_42 fl_X9_22 rfl ft_9_4 (show lay 39 = _ from rfl) rfl (by omega) ?_
  refine v_ald0 dX9_init_45 ?_
  refine v_bipush (v := nI 24) dX9_init_46 (by decide) ?_
  refine v_newaI (n := 45) dX9_init_48 ac_int (show lay 45 = _ from rfl) rfl (by decide) (Z0.uP (by omega) (Z0.uP (by omega) (Z0.uP (by omega) (Z0.uP (by omega) (Z0.uP (by omega) (hz _ (by omega))))))) ?_
  refine v_putP dX9_init_50 fl_X9_25 rfl ft_9_5 (show lay 39 = _ from rfl) rfl (by omega) ?_
  refine v_ald0 dX9_init_53 ?_
  refine v_bipush (v := nI 24) dX9_init_54 (by decide) ?_
  refine v_newaI (n := 46) dX9_init_56 ac_int (show lay 46 = _ from rfl) rfl (by decide) (Z0.uP (by omega) (Z0.uP (by omega) (Z0.uP (by omega) (Z0.uP (by omega) (Z0.uP (by omega) (Z0.uP (by omega) (hz _ (by omega)))))))) ?_
  refine v_putP dX9_init_58 fl_X9_28 rfl ft_9_6 (show lay 39 = _ from rfl) rfl (by omega) ?_
  refine v_ald0 dX9_init_61 ?_
  refine v_sipush (v := nI 288) dX9_init_62 (by decide) ?_
  refine v_newaI (n := 47) dX9_init_65 ac_int (show lay 47 = _ from rfl) rfl (by decide) (Z0.uP (by omega) (Z0.uP (by omega) (Z0.uP (by omega) (Z0.uP (by omega) (Z0.uP (by omega) (Z0.uP (by omega) (Z0.uP (by omega) (hz _ (by omega))))))))) ?_
  refine v_putP dX9_init_67 fl_X9_31 rfl ft_9_7 (show lay 39 = _ from rfl) rfl (by omega) ?_
  refine v_ald0 dX9_init_70 ?_
  refine v_bipush (v := nI 24) dX9_init_71 (by decide) ?_
  refine v_newaI (n := 48) dX9_init_73 ac_int (show lay 48 = _ from rfl) rfl (by decide) (Z0.uP (by omega) (Z0.uP (by omega) (Z0.uP (by omega) (Z0.uP (by omega) (Z0.uP (by omega) (Z0.uP (by omega) (Z0.uP (by omega) (Z0.uP (by omega) (hz _ (by omega)))))))))) ?_
  refine v_putP dX9_init_75 fl_X9_34 rfl ft_9_8 (show lay 39 = _ from rfl) rfl (by omega) ?_
  refine v_ald0 dX9_init_78 ?_
  refine v_bipush (v := nI 24) dX9_init_79 (by decide) ?_
  refine v_newaI (n := 49) dX9_init_81 ac_int (show lay 49 = _ from rfl) rfl (by decide) (Z0.uP (by omega) (Z0.uP (by omega) (Z0.uP (by omega) (Z0.uP (by omega) (Z0.uP (by omega) (Z0.uP (by omega) (Z0.uP (by omega) (Z0.uP (by omega) (Z0.uP (by omega) (hz _ (by omega))))))))))) ?_
  refine v_putP dX9_init_83 fl_X9_37 rfl ft_9_9 (show lay 39 = _ from rfl) rfl (by omega) ?_
  refine v_ald0 dX9_init_86 ?_
  refine v_bipush (v := nI 24) dX9_init_87 (by decide) ?_
  refine v_newaI (n := 50) dX9_init_89 ac_int (show lay 50 = _ from rfl) rfl (by decide) (Z0.uP (by omega) (Z0.uP (by omega) (Z0.uP (by omega) (Z0.uP (by omega) (Z0.uP (by omega) (Z0.uP (by omega) (Z0.uP (by omega) (Z0.uP (by omega) (Z0.uP (by omega) (Z0.uP (by omega) (hz _ (by omega)))))))))))) ?_
  refine v_putP dX9_init_91 fl_X9_40 rfl ft_9_10 (show lay 39 = _ from rfl) rfl (by omega) ?_
  refine v_ald0 dX9_init_94 ?_
  refine v_bipush (v := nI 24) dX9_init_95 (by decide) ?_
  refine v_newaI (n := 51) dX9_init_97 ac_int (show lay 51 = _ from rfl) rfl (by decide) (Z0.uP (by omega) (Z0.uP (by omega) (Z0.uP (by omega) (Z0.uP (by omega) (Z0.uP (by omega) (Z0.uP (by omega) (Z0.uP (by omega) (Z0.uP (by omega) (Z0.uP (by omega) (Z0.uP (by omega) (Z0.uP (by omega) (hz _ (by omega))))))))))))) ?_
  refine v_putP dX9_init_99 fl_X9_43 rfl ft_9_11 (show lay 39 = _ from rfl) rfl (by omega) ?_
  refine v_ald0 dX9_init_102 ?_
  refine v_bipush (v := nI 24) dX9_init_103 (by decide) ?_
  refine v_newaZ (n := 52) dX9_init_105 ac_boolean (show lay 52 = _ from rfl) rfl (by decide) (Z0.uP (by omega) (Z0.uP (by omega) (Z0.uP (by omega) (Z0.uP (by omega) (Z0.uP (by omega) (Z0.uP (by omega) (Z0.uP (by omega) (Z0.uP (by omega) (Z0.uP (by omega) (Z0.uP (by omega) (Z0.uP (by omega) (Z0.uP (by omega) (hz _ (by omega)))))))))))))) ?_
  refine v_putP dX9_init_107 fl_X9_46 rfl ft_9_12 (show lay 39 = _ from rfl) rfl (by omega) ?_
  refine v_ald0 dX9_init_110 ?_
  refine v_sipush (v := nI 288) dX9_init_111 (by decide) ?_
  refine v_newaZ (n := 53) dX9_init_114 ac_boolean (show lay 53 = _ from rfl) rfl (by decide) (Z0.uP (by omega) (Z0.uP (by omega) (Z0.uP (by omega) (Z0.uP (by omega) (Z0.uP (by omega) (Z0.uP (by omega) (Z0.uP (by omega) (Z0.uP (by omega) (Z0.uP (by omega) (Z0.uP (by omega) (Z0.uP (by omega) (Z0.uP (by omega) (Z0.uP (by omega) (hz _ (by omega))))))))))))))) ?_
  refine v_putP dX9_init_116 fl_X9_50 rfl ft_9_13 (show lay 39 = _ from rfl) rfl (by omega) ?_
  refine v_ald0 dX9_init_119 ?_
  refine v_bipush (v := nI 36) dX9_init_120 (by decide) ?_
  refine v_newaZ (n := 54) dX9_init_122 ac_boolean (show lay 54 = _ from rfl) rfl (by decide) (Z0.uP (by omega) (Z0.uP (by omega) (Z0.uP (by omega) (Z0.uP (by omega) (Z0.uP (by omega) (Z0.uP (by omega) (Z0.uP (by omega) (Z0.uP (by omega) (Z0.uP (by omega) (Z0.uP (by omega) (Z0.uP (by omega) (Z0.uP (by omega) (Z0.uP (by omega) (Z0.uP (by omega) (hz _ (by omega)))))))))))))))) ?_
  refine v_putP dX9_init_124 fl_X9_53 rfl ft_9_14 (show lay 39 = _ from rfl) rfl (by omega) ?_
  refine v_ald0 dX9_init_127 ?_
  refine v_bipush (v := nI 6) dX9_init_128 (by decide) ?_
  refine v_newaZ (n := 55) dX9_init_130 ac_boolean (show lay 55 = _ from rfl) rfl (by decide) (Z0.uP (by omega) (Z0.uP (by omega) (Z0.uP (by omega) (Z0.uP (by omega) (Z0.uP (by omega) (Z0.uP (by omega) (Z0.uP (by omega) (Z0.uP (by omega) (Z0.uP (by omega) (Z0.uP (by omega) (Z0.uP (by omega) (Z0.uP (by omega) (Z0.uP (by omega) (Z0.uP (by omega) (Z0.uP (by omega) (hz _ (by omega))))))))))))))))) ?_
  refine v_putP dX9_init_132 fl_X9_56 rfl ft_9_15 (show lay 39 = _ from rfl) rfl (by omega) ?_
  refine v_ald0 dX9_init_135 ?_
  refine v_bipush (v := nI 24) dX9_init_136 (by decide) ?_
  refine v_newaZ (n := 56) dX9_init_138 ac_boolean (show lay 56 = _ from rfl) rfl (by decide) (Z0.uP (by omega) (Z0.uP (by omega) (Z0.uP (by omega) (Z0.uP (by omega) (Z0.uP (by omega) (Z0.uP (by omega) (Z0.uP (by omega) (Z0.uP (by omega) (Z0.uP (by omega) (Z0.uP (by omega) (Z0.uP (by omega) (Z0.uP (by omega) (Z0.uP (by omega) (Z0.uP (by omega) (Z0.uP (by omega) (Z0.uP (by omega) (hz _ (by omega)))))))))))))))))) ?_
  refine v_putP dX9_init_140 fl_X9_59 rfl ft_9_16 (show lay 39 = _ from rfl) rfl (by omega) ?_
  refine v_ald0 dX9_init_143 ?_
  refine v_icN (n := 3) dX9_init_144 (by decide) ?_
  refine v_putI dX9_init_145 fl_X9_62 ft_9_18 (show lay 39 = _ from rfl) rfl (by omega) ?_
  refine v_ald0 dX9_init_148 ?_
  refine v_icN (n := 2) dX9_init_149 (by decide) ?_
  refine v_putI dX9_init_150 fl_X9_66 ft_9_19 (show lay 39 = _ from rfl) rfl (by omega) ?_
  refine v_ald0 dX9_init_153 ?_
  refine v_icN (n := 3) dX9_init_154 (by decide) ?_
  refine v_putI dX9_init_155 fl_X9_69 ft_9_20 (show lay 39 = _ from rfl) rfl (by omega) ?_
  refine v_ald0 dX9_init_158 ?_
  refine v_icm1 dX9_init_159 ?_
  refine v_putI dX9_init_160 fl_X9_72 ft_9_21 (show lay 39 = _ from rfl) rfl (by omega) ?_
  refine v_ald0 dX9_init_163 ?_
  refine v_bipush (v := nI 40) dX9_init_164 (by decide) ?_
  refine v_newaI (n := 57) dX9_init_166 ac_int (show lay 57 = _ from rfl) rfl (by decide) (Z0.uI (by omega) (Z0.uI (by omega) (Z0.uI (by omega) (Z0.uI (by omega) (Z0.uP (by omega) (Z0.uP (by omega) (Z0.uP (by omega) (Z0.uP (by omega) (Z0.uP (by omega) (Z0.uP (by omega) (Z0.uP (by omega) (Z0.uP (by omega) (Z0.uP (by omega) (Z0.uP (by omega) (Z0.uP (by omega) (Z0.uP (by omega) (Z0.uP (by omega) (Z0.uP (by omega) (Z0.uP (by omega) (Z0.uP (by omega) (Z0.uP (by omega) (hz _ (by omega))))))))))))))))))))))) ?_
  refine v_putP dX9_init_168 fl_X9_75 rfl ft_9_23 (show lay 39 = _ from rfl) rfl (by omega) ?_
  refine v_ald0 dX9_init_171 ?_
  refine v_bipush (v := nI 40) dX9_init_172 (by decide) ?_
  refine v_newaI (n := 58) dX9_init_174 ac_int (show lay 58 = _ from rfl) rfl (by decide) (Z0.uP (by omega) (Z0.uI (by omega) (Z0.uI (by omega) (Z0.uI (by omega) (Z0.uI (by omega) (Z0.uP (by omega) (Z0.uP (by omega) (Z0.uP (by omega) (Z0.uP (by omega) (Z0.uP (by omega) (Z0.uP (by omega) (Z0.uP (by omega) (Z0.uP (by omega) (Z0.uP (by omega) (Z0.uP (by omega) (Z0.uP (by omega) (Z0.uP (by omega) (Z0.uP (by omega) (Z0.uP (by omega) (Z0.uP (by omega) (Z0.uP (by omega) (Z0.uP (by omega) (hz _ (by omega)))))))))))))))))))))))) ?_
  refine v_putP dX9_init_176 fl_X9_78 rfl ft_9_24 (show lay 39 = _ from rfl) rfl (by omega) ?_
  refine v_ald0 dX9_init_179 ?_
  refine v_bipush (v := nI 8) dX9_init_180 (by decide) ?_
  refine v_newaI (n := 59) dX9_init_182 ac_int (show lay 59 = _ from rfl) rfl (by decide) (Z0.uP (by omega) (Z0.uP (by omega) (Z0.uI (by omega) (Z0.uI (by omega) (Z0.uI (by omega) (Z0.uI (by omega) (Z0.uP (by omega) (Z0.uP (by omega) (Z0.uP (by omega) (Z0.uP (by omega) (Z0.uP (by omega) (Z0.uP (by omega) (Z0.uP (by omega) (Z0.uP (by omega) (Z0.uP (by omega) (Z0.uP (by omega) (Z0.uP (by omega) (Z0.uP (by omega) (Z0.uP (by omega) (Z0.uP (by omega) (Z0.uP (by omega) (Z0.uP (by omega) (Z0.uP (by omega) (hz _ (by omega))))))))))))))))))))))))) ?_
  refine v_putP dX9_init_184 fl_X9_81 rfl ft_9_25 (show lay 39 = _ from rfl) rfl (by omega) ?_
  refine v_ald0 dX9_init_187 ?_
  refine v_bipush (v := nI 8) dX9_init_188 (by decide) ?_
  refine v_newaI (n := 60) dX9_init_190 ac_int (show lay 60 = _ from rfl) rfl (by decide) (Z0.uP (by omega) (Z0.uP (by omega) (Z0.uP (by omega) (Z0.uI (by omega) (Z0.uI (by omega) (Z0.uI (by omega) (Z0.uI (by omega) (Z0.uP (by omega) (Z0.uP (by omega) (Z0.uP (by omega) (Z0.uP (by omega) (Z0.uP (by omega) (Z0.uP (by omega) (Z0.uP (by omega) (Z0.uP (by omega) (Z0.uP (by omega) (Z0.uP (by omega) (Z0.uP (by omega) (Z0.uP (by omega) (Z0.uP (by omega) (Z0.uP (by omega) (Z0.uP (by omega) (Z0.uP (by omega) (Z0.uP (by omega) (hz _ (by omega)))))))))))))))))))))))))) ?_
  refine v_putP dX9_init_192 fl_X9_84 rfl ft_9_26 (show lay 39 = _ from rfl) rfl (by omega) ?_
  refine v_ald0 dX9_init_195 ?_
  refine v_bipush (v := nI 8) dX9_init_196 (by decide) ?_
  refine v_newaI (n := 61) dX9_init_198 ac_int (show lay 61 = _ from rfl) rfl (by decide) (Z0.uP (by omega) (Z0.uP (by omega) (Z0.uP (by omega) (Z0.uP (by omega) (Z0.uI (by omega) (Z0.uI (by omega) (Z0.uI (by omega) (Z0.uI (by omega) (Z0.uP (by omega) (Z0.uP (by omega) (Z0.uP (by omega) (Z0.uP (by omega) (Z0.uP (by omega) (Z0.uP (by omega) (Z0.uP (by omega) (Z0.uP (by omega) (Z0.uP (by omega) (Z0.uP (by omega) (Z0.uP (by omega) (Z0.uP (by omega) (Z0.uP (by omega) (Z0.uP (by omega) (Z0.uP (by omega) (Z0.uP (by omega) (Z0.uP (by omega) (hz _ (by omega))))))))))))))))))))))))))) ?_
  refine v_putP dX9_init_200 fl_X9_87 rfl ft_9_27 (show lay 39 = _ from rfl) rfl (by omega) ?_
  refine v_ald0 dX9_init_203 ?_
  refine v_bipush (v := nI 8) dX9_init_204 (by decide) ?_
  refine v_newaI (n := 62) dX9_init_206 ac_int (show lay 62 = _ from rfl) rfl (by decide) (Z0.uP (by omega) (Z0.uP (by omega) (Z0.uP (by omega) (Z0.uP (by omega) (Z0.uP (by omega) (Z0.uI (by omega) (Z0.uI (by omega) (Z0.uI (by omega) (Z0.uI (by omega) (Z0.uP (by omega) (Z0.uP (by omega) (Z0.uP (by omega) (Z0.uP (by omega) (Z0.uP (by omega) (Z0.uP (by omega) (Z0.uP (by omega) (Z0.uP (by omega) (Z0.uP (by omega) (Z0.uP (by omega) (Z0.uP (by omega) (Z0.uP (by omega) (Z0.uP (by omega) (Z0.uP (by omega) (Z0.uP (by omega) (Z0.uP (by omega) (Z0.uP (by omega) (hz _ (by omega)))))))))))))))))))))))))))) ?_
  refine v_putP dX9_init_208 fl_X9_90 rfl ft_9_28 (show lay 39 = _ from rfl) rfl (by omega) ?_
  refine v_ald0 dX9_init_211 ?_
  refine v_sipush (v := nI 240) dX9_init_212 (by decide) ?_
  refine v_newaL (n := 63) dX9_init_215 ac_long (show lay 63 = _ from rfl) rfl (by decide) (Z0.uP (by omega) (Z0.uP (by omega) (Z0.uP (by omega) (Z0.uP (by omega) (Z0.uP (by omega) (Z0.uP (by omega) (Z0.uI (by omega) (Z0.uI (by omega) (Z0.uI (by omega) (Z0.uI (by omega) (Z0.uP (by omega) (Z0.uP (by omega) (Z0.uP (by omega) (Z0.uP (by omega) (Z0.uP (by omega) (Z0.uP (by omega) (Z0.uP (by omega) (Z0.uP (by omega) (Z0.uP (by omega) (Z0.uP (by omega) (Z0.uP (by omega) (Z0.uP (by omega) (Z0.uP (by omega) (Z0.uP (by omega) (Z0.uP (by omega) (Z0.uP (by omega) (Z0.uP (by omega) (hz _ (by omega))))))))))))))))))))))))))))) ?_
  refine v_putP dX9_init_217 fl_X9_93 rfl ft_9_29 (show lay 39 = _ from rfl) rfl (by omega) ?_
  refine v_ald0 dX9_init_220 ?_
  refine v_bipush (v := nI 30) dX9_init_221 (by decide) ?_
  refine v_newaL (n := 64) dX9_init_223 ac_long (show lay 64 = _ from rfl) rfl (by decide) (Z0.uP (by omega) (Z0.uP (by omega) (Z0.uP (by omega) (Z0.uP (by omega) (Z0.uP (by omega) (Z0.uP (by omega) (Z0.uP (by omega) (Z0.uI (by omega) (Z0.uI (by omega) (Z0.uI (by omega) (Z0.uI (by omega) (Z0.uP (by omega) (Z0.uP (by omega) (Z0.uP (by omega) (Z0.uP (by omega) (Z0.uP (by omega) (Z0.uP (by omega) (Z0.uP (by omega) (Z0.uP (by omega) (Z0.uP (by omega) (Z0.uP (by omega) (Z0.uP (by omega) (Z0.uP (by omega) (Z0.uP (by omega) (Z0.uP (by omega) (Z0.uP (by omega) (Z0.uP (by omega) (Z0.uP (by omega) (hz _ (by omega)))))))))))))))))))))))))))))) ?_
  refine v_putP dX9_init_225 fl_X9_97 rfl ft_9_30 (show lay 39 = _ from rfl) rfl (by omega) ?_
  refine v_ald0 dX9_init_228 ?_
  refine v_bipush (v := nI 6) dX9_init_229 (by decide) ?_
  refine v_newaI (n := 65) dX9_init_231 ac_int (show lay 65 = _ from rfl) rfl (by decide) (Z0.uP (by omega) (Z0.uP (by omega) (Z0.uP (by omega) (Z0.uP (by omega) (Z0.uP (by omega) (Z0.uP (by omega) (Z0.uP (by omega) (Z0.uP (by omega) (Z0.uI (by omega) (Z0.uI (by omega) (Z0.uI (by omega) (Z0.uI (by omega) (Z0.uP (by omega) (Z0.uP (by omega) (Z0.uP (by omega) (Z0.uP (by omega) (Z0.uP (by omega) (Z0.uP (by omega) (Z0.uP (by omega) (Z0.uP (by omega) (Z0.uP (by omega) (Z0.uP (by omega) (Z0.uP (by omega) (Z0.uP (by omega) (Z0.uP (by omega) (Z0.uP (by omega) (Z0.uP (by omega) (Z0.uP (by omega) (Z0.uP (by omega) (hz _ (by omega))))))))))))))))))))))))))))))) ?_
  refine v_putP dX9_init_233 fl_X9_100 rfl ft_9_31 (show lay 39 = _ from rfl) rfl (by omega) ?_
  refine v_ald0 dX9_init_236 ?_
  refine v_bipush (v := nI 6) dX9_init_237 (by decide) ?_
  refine v_newaI (n := 66) dX9_init_239 ac_int (show lay 66 = _ from rfl) rfl (by decide) (Z0.uP (by omega) (Z0.uP (by omega) (Z0.uP (by omega) (Z0.uP (by omega) (Z0.uP (by omega) (Z0.uP (by omega) (Z0.uP (by omega) (Z0.uP (by omega) (Z0.uP (by omega) (Z0.uI (by omega) (Z0.uI (by omega) (Z0.uI (by omega) (Z0.uI (by omega) (Z0.uP (by omega) (Z0.uP (by omega) (Z0.uP (by omega) (Z0.uP (by omega) (Z0.uP (by omega) (Z0.uP (by omega) (Z0.uP (by omega) (Z0.uP (by omega) (Z0.uP (by omega) (Z0.uP (by omega) (Z0.uP (by omega) (Z0.uP (by omega) (Z0.uP (by omega) (Z0.uP (by omega) (Z0.uP (by omega) (Z0.uP (by omega) (Z0.uP (by omega) (hz _ (by omega)))))))))))))))))))))))))))))))) ?_
  refine v_putP dX9_init_241 fl_X9_103 rfl ft_9_32 (show lay 39 = _ from rfl) rfl (by omega) ?_
  refine v_ald0 dX9_init_244 ?_
  refine v_bipush (v := nI 6) dX9_init_245 (by decide) ?_
  refine v_newaI (n := 67) dX9_init_247 ac_int (show lay 67 = _ from rfl) rfl (by decide) (Z0.uP (by omega) (Z0.uP (by omega) (Z0.uP (by omega) (Z0.uP (by omega) (Z0.uP (by omega) (Z0.uP (by omega) (Z0.uP (by omega) (Z0.uP (by omega) (Z0.uP (by omega) (Z0.uP (by omega) (Z0.uI (by omega) (Z0.uI (by omega) (Z0.uI (by omega) (Z0.uI (by omega) (Z0.uP (by omega) (Z0.uP (by omega) (Z0.uP (by omega) (Z0.uP (by omega) (Z0.uP (by omega) (Z0.uP (by omega) (Z0.uP (by omega) (Z0.uP (by omega) (Z0.uP (by omega) (Z0.uP (by omega) (Z0.uP (by omega) (Z0.uP (by omega) (Z0.uP (by omega) (Z0.uP (by omega) (Z0.uP (by omega) (Z0.uP (by omega) (Z0.uP (by omega) (hz _ (by omega))))))))))))))))))))))))))))))))) ?_
  refine v_putP dX9_init_249 fl_X9_106 rfl ft_9_33 (show lay 39 = _ from rfl) rfl (by omega) ?_
  refine v_ald0 dX9_init_252 ?_
  refine v_bipush (v := nI 6) dX9_init_253 (by decide) ?_
  refine v_newaI (n := 68) dX9_init_255 ac_int (show lay 68 = _ from rfl) rfl (by decide) (Z0.uP (by omega) (Z0.uP (by omega) (Z0.uP (by omega) (Z0.uP (by omega) (Z0.uP (by omega) (Z0.uP (by omega) (Z0.uP (by omega) (Z0.uP (by omega) (Z0.uP (by omega) (Z0.uP (by omega) (Z0.uP (by omega) (Z0.uI (by omega) (Z0.uI (by omega) (Z0.uI (by omega) (Z0.uI (by omega) (Z0.uP (by omega) (Z0.uP (by omega) (Z0.uP (by omega) (Z0.uP (by omega) (Z0.uP (by omega) (Z0.uP (by omega) (Z0.uP (by omega) (Z0.uP (by omega) (Z0.uP (by omega) (Z0.uP (by omega) (Z0.uP (by omega) (Z0.uP (by omega) (Z0.uP (by omega) (Z0.uP (by omega) (Z0.uP (by omega) (Z0.uP (by omega) (Z0.uP (by omega) (hz _ (by omega)))))))))))))))))))))))))))))))))) ?_
  refine v_putP dX9_init_257 fl_X9_109 rfl ft_9_34 (show lay 39 = _ from rfl) rfl (by omega) ?_
  refine v_ald0 dX9_init_260 ?_
  refine v_bipush (v := nI 6) dX9_init_261 (by decide) ?_
  refine v_newaI (n := 69) dX9_init_263 ac_int (show lay 69 = _ from rfl) rfl (by decide) (Z0.uP (by omega) (Z0.uP (by omega) (Z0.uP (by omega) (Z0.uP (by omega) (Z0.uP (by omega) (Z0.uP (by omega) (Z0.uP (by omega) (Z0.uP (by omega) (Z0.uP (by omega) (Z0.uP (by omega) (Z0.uP (by omega) (Z0.uP (by omega) (Z0.uI (by omega) (Z0.uI (by omega) (Z0.uI (by omega) (Z0.uI (by omega) (Z0.uP (by omega) (Z0.uP (by omega) (Z0.uP (by omega) (Z0.uP (by omega) (Z0.uP (by omega) (Z0.uP (by omega) (Z0.uP (by omega) (Z0.uP (by omega) (Z0.uP (by omega) (Z0.uP (by omega) (Z0.uP (by omega) (Z0.uP (by omega) (Z0.uP (by omega) (Z0.uP (by omega) (Z0.uP (by omega) (Z0.uP (by omega) (Z0.uP (by omega) (hz _ (by omega))))))))))))))))))))))))))))))))))) ?_
  refine v_putP dX9_init_265 fl_X9_112 rfl ft_9_35 (show lay 39 = _ from rfl) rfl (by omega) ?_
  refine v_ald0 dX9_init_268 ?_
  refine v_bipush (v := nI 24) dX9_init_269 (by decide) ?_
  refine v_newaI (n := 70) dX9_init_271 ac_int (show lay 70 = _ from rfl) rfl (by decide) (Z0.uP (by omega) (Z0.uP (by omega) (Z0.uP (by omega) (Z0.uP (by omega) (Z0.uP (by omega) (Z0.uP (by omega) (Z0.uP (by omega) (Z0.uP (by omega) (Z0.uP (by omega) (Z0.uP (by omega) (Z0.uP (by omega) (Z0.uP (by omega) (Z0.uP (by omega) (Z0.uI (by omega) (Z0.uI (by omega) (Z0.uI (by omega) (Z0.uI (by omega) (Z0.uP (by omega) (Z0.uP (by omega) (Z0.uP (by omega) (Z0.uP (by omega) (Z0.uP (by omega) (Z0.uP (by omega) (Z0.uP (by omega) (Z0.uP (by omega) (Z0.uP (by omega) (Z0.uP (by omega) (Z0.uP (by omega) (Z0.uP (by omega) (Z0.uP (by omega) (Z0.uP (by omega) (Z0.uP (by omega) (Z0.uP (by omega) (Z0.uP (by omega) (hz _ (by omega)))))))))))))))))))))))))))))))))))) ?_
  refine v_putP dX9_init_273 fl_X9_115 rfl ft_9_37 (show lay 39 = _ from rfl) rfl (by omega) ?_
  refine v_ald0 dX9_init_276 ?_
  refine v_bipush (v := nI 24) dX9_init_277 (by decide) ?_
  refine v_newaI (n := 71) dX9_init_279 ac_int (show lay 71 = _ from rfl) rfl (by decide) (Z0.uP (by omega) (Z0.uP (by omega) (Z0.uP (by omega) (Z0.uP (by omega) (Z0.uP (by omega) (Z0.uP (by omega) (Z0.uP (by omega) (Z0.uP (by omega) (Z0.uP (by omega) (Z0.uP (by omega) (Z0.uP (by omega) (Z0.uP (by omega) (Z0.uP (by omega) (Z0.uP (by omega) (Z0.uI (by omega) (Z0.uI (by omega) (Z0.uI (by omega) (Z0.uI (by omega) (Z0.uP (by omega) (Z0.uP (by omega) (Z0.uP (by omega) (Z0.uP (by omega) (Z0.uP (by omega) (Z0.uP (by omega) (Z0.uP (by omega) (Z0.uP (by omega) (Z0.uP (by omega) (Z0.uP (by omega) (Z0.uP (by omega) (Z0.uP (by omega) (Z0.uP (by omega) (Z0.uP (by omega) (Z0.uP (by omega) (Z0.uP (by omega) (Z0.uP (by omega) (hz _ (by omega))))))))))))))))))))))))))))))))))))) ?_
  refine v_putP dX9_init_281 fl_X9_118 rfl ft_9_38 (show lay 39 = _ from rfl) rfl (by omega) ?_
  refine v_ald0 dX9_init_284 ?_
  refine v_bipush (v := nI 24) dX9_init_285 (by decide) ?_
  refine v_newaI (n := 72) dX9_init_287 ac_int (show lay 72 = _ from rfl) rfl (by decide) (Z0.uP (by omega) (Z0.uP (by omega) (Z0.uP (by omega) (Z0.uP (by omega) (Z0.uP (by omega) (Z0.uP (by omega) (Z0.uP (by omega) (Z0.uP (by omega) (Z0.uP (by omega) (Z0.uP (by omega) (Z0.uP (by omega) (Z0.uP (by omega) (Z0.uP (by omega) (Z0.uP (by omega) (Z0.uP (by omega) (Z0.uI (by omega) (Z0.uI (by omega) (Z0.uI (by omega) (Z0.uI (by omega) (Z0.uP (by omega) (Z0.uP (by omega) (Z0.uP (by omega) (Z0.uP (by omega) (Z0.uP (by omega) (Z0.uP (by omega) (Z0.uP (by omega) (Z0.uP (by omega) (Z0.uP (by omega) (Z0.uP (by omega) (Z0.uP (by omega) (Z0.uP (by omega) (Z0.uP (by omega) (Z0.uP (by omega) (Z0.uP (by omega) (Z0.uP (by omega) (Z0.uP (by omega) (hz _ (by omega)))))))))))))))))))))))))))))))))))))) ?_
  refine v_putP dX9_init_289 fl_X9_121 rfl ft_9_39 (show lay 39 = _ from rfl) rfl (by omega) ?_
  refine v_ald0 dX9_init_292 ?_
  refine v_bipush (v := nI 24) dX9_init_293 (by decide) ?_
  refine v_newaZ (n := 73) dX9_init_295 ac_boolean (show lay 73 = _ from rfl) rfl (by decide) (Z0.uP (by omega) (Z0.uP (by omega) (Z0.uP (by omega) (Z0.uP (by omega) (Z0.uP (by omega) (Z0.uP (by omega) (Z0.uP (by omega) (Z0.uP (by omega) (Z0.uP (by omega) (Z0.uP (by omega) (Z0.uP (by omega) (Z0.uP (by omega) (Z0.uP (by omega) (Z0.uP (by omega) (Z0.uP (by omega) (Z0.uP (by omega) (Z0.uI (by omega) (Z0.uI (by omega) (Z0.uI (by omega) (Z0.uI (by omega) (Z0.uP (by omega) (Z0.uP (by omega) (Z0.uP (by omega) (Z0.uP (by omega) (Z0.uP (by omega) (Z0.uP (by omega) (Z0.uP (by omega) (Z0.uP (by omega) (Z0.uP (by omega) (Z0.uP (by omega) (Z0.uP (by omega) (Z0.uP (by omega) (Z0.uP (by omega) (Z0.uP (by omega) (Z0.uP (by omega) (Z0.uP (by omega) (Z0.uP (by omega) (hz _ (by omega))))))))))))))))))))))))))))))))))))))) ?_
  refine v_putP dX9_init_297 fl_X9_124 rfl ft_9_40 (show lay 39 = _ from rfl) rfl (by omega) ?_
  refine v_ald0 dX9_init_300 ?_
  refine v_bipush (v := nI 24) dX9_init_301 (by decide) ?_
  refine v_newaZ (n := 74) dX9_init_303 ac_boolean (show lay 74 = _ from rfl) rfl (by decide) (Z0.uP (by omega) (Z0.uP (by omega) (Z0.uP (by omega) (Z0.uP (by omega) (Z0.uP (by omega) (Z0.uP (by omega) (Z0.uP (by omega) (Z0.uP (by omega) (Z0.uP (by omega) (Z0.uP (by omega) (Z0.uP (by omega) (Z0.uP (by omega) (Z0.uP (by omega) (Z0.uP (by omega) (Z0.uP (by omega) (Z0.uP (by omega) (Z0.uP (by omega) (Z0.uI (by omega) (Z0.uI (by omega) (Z0.uI (by omega) (Z0.uI (by omega) (Z0.uP (by omega) (Z0.uP (by omega) (Z0.uP (by omega) (Z0.uP (by omega) (Z0.uP (by omega) (Z0.uP (by omega) (Z0.uP (by omega) (Z0.uP (by omega) (Z0.uP (by omega) (Z0.uP (by omega) (Z0.uP (by omega) (Z0.uP (by omega) (Z0.uP (by omega) (Z0.uP (by omega) (Z0.uP (by omega) (Z0.uP (by omega) (Z0.uP (by omega) (hz _ (by omega)))))))))))))))))))))))))))))))))))))))) ?_
  refine v_putP dX9_init_305 fl_X9_127 rfl ft_9_41 (show lay 39 = _ from rfl) rfl (by omega) ?_
  refine v_ald0 dX9_init_308 ?_
  refine v_bipush (v := nI 10) dX9_init_309 (by decide) ?_
  refine v_newaI (n := 75) dX9_init_311 ac_int (show lay 75 = _ from rfl) rfl (by decide) (Z0.uP (by omega) (Z0.uP (by omega) (Z0.uP (by omega) (Z0.uP (by omega) (Z0.uP (by omega) (Z0.uP (by omega) (Z0.uP (by omega) (Z0.uP (by omega) (Z0.uP (by omega) (Z0.uP (by omega) (Z0.uP (by omega) (Z0.uP (by omega) (Z0.uP (by omega) (Z0.uP (by omega) (Z0.uP (by omega) (Z0.uP (by omega) (Z0.uP (by omega) (Z0.uP (by omega) (Z0.uI (by omega) (Z0.uI (by omega) (Z0.uI (by omega) (Z0.uI (by omega) (Z0.uP (by omega) (Z0.uP (by omega) (Z0.uP (by omega) (Z0.uP (by omega) (Z0.uP (by omega) (Z0.uP (by omega) (Z0.uP (by omega) (Z0.uP (by omega) (Z0.uP (by omega) (Z0.uP (by omega) (Z0.uP (by omega) (Z0.uP (by omega) (Z0.uP (by omega) (Z0.uP (by omega) (Z0.uP (by omega) (Z0.uP (by omega) (Z0.uP (by omega) (hz _ (by omega))))))))))))))))))))))))))))))))))))))))) ?_
  refine v_putP dX9_init_313 fl_X9_130 rfl ft_9_43 (show lay 39 = _ from rfl) rfl (by omega) ?_
  refine v_ald0 dX9_init_316 ?_
  refine v_bipush (v := nI 10) dX9_init_317 (by decide) ?_
  refine v_newaI (n := 76) dX9_init_319 ac_int (show lay 76 = _ from rfl) rfl (by decide) (Z0.uP (by omega) (Z0.uP (by omega) (Z0.uP (by omega) (Z0.uP (by omega) (Z0.uP (by omega) (Z0.uP (by omega) (Z0.uP (by omega) (Z0.uP (by omega) (Z0.uP (by omega) (Z0.uP (by omega) (Z0.uP (by omega) (Z0.uP (by omega) (Z0.uP (by omega) (Z0.uP (by omega) (Z0.uP (by omega) (Z0.uP (by omega) (Z0.uP (by omega) (Z0.uP (by omega) (Z0.uP (by omega) (Z0.uI (by omega) (Z0.uI (by omega) (Z0.uI (by omega) (Z0.uI (by omega) (Z0.uP (by omega) (Z0.uP (by omega) (Z0.uP (by omega) (Z0.uP (by omega) (Z0.uP (by omega) (Z0.uP (by omega) (Z0.uP (by omega) (Z0.uP (by omega) (Z0.uP (by omega) (Z0.uP (by omega) (Z0.uP (by omega) (Z0.uP (by omega) (Z0.uP (by omega) (Z0.uP (by omega) (Z0.uP (by omega) (Z0.uP (by omega) (Z0.uP (by omega) (hz _ (by omega)))))))))))))))))))))))))))))))))))))))))) ?_
  refine v_putP dX9_init_321 fl_X9_133 rfl ft_9_44 (show lay 39 = _ from rfl) rfl (by omega) ?_
  refine v_ald0 dX9_init_324 ?_
  refine v_icN (n := 4) dX9_init_325 (by decide) ?_
  refine v_newaI (n := 77) dX9_init_326 ac_int (show lay 77 = _ from rfl) rfl (by decide) (Z0.uP (by omega) (Z0.uP (by omega) (Z0.uP (by omega) (Z0.uP (by omega) (Z0.uP (by omega) (Z0.uP (by omega) (Z0.uP (by omega) (Z0.uP (by omega) (Z0.uP (by omega) (Z0.uP (by omega) (Z0.uP (by omega) (Z0.uP (by omega) (Z0.uP (by omega) (Z0.uP (by omega) (Z0.uP (by omega) (Z0.uP (by omega) (Z0.uP (by omega) (Z0.uP (by omega) (Z0.uP (by omega) (Z0.uP (by omega) (Z0.uI (by omega) (Z0.uI (by omega) (Z0.uI (by omega) (Z0.uI (by omega) (Z0.uP (by omega) (Z0.uP (by omega) (Z0.uP (by omega) (Z0.uP (by omega) (Z0.uP (by omega) (Z0.uP (by omega) (Z0.uP (by omega) (Z0.uP (by omega) (Z0.uP (by omega) (Z0.uP (by omega) (Z0.uP (by omega) (Z0.uP (by omega) (Z0.uP (by omega) (Z0.uP (by omega) (Z0.uP (by omega) (Z0.uP (by omega) (Z0.uP (by omega) (hz _ (by omega))))))))))))))))))))))))))))))))))))))))))) ?_
  refine v_putP dX9_init_328 fl_X9_136 rfl ft_9_45 (show lay 39 = _ from rfl) rfl (by omega) ?_
  refine v_icN (n := 0) dX9_init_331 (by decide) ?_
  refine v_ist1 dX9_init_332 rfl ?_
  refine v_ild1 dX9_init_333 ?_
  refine v_bipush (v := nI 6) dX9_init_334 (by decide) ?_
  refine v_icmp_ge (tgt := 352) dX9_init_336 (by decide) (fun h => absurd h (nI_ge (by omega) (by decide))) (fun _ => ?_)
  refine v_ald0 dX9_init_339 ?_
  refine v_getP (q := 68) dX9_init_340 fl_X9_109 (show lay 39 = _ from rfl) rfl (by omega) (by rw [u2_k _ _ _ _ (by decide), u2_k _ _ _ _ (by decide), u2_k _ _ _ _ (by decide), u2_k _ _ _ _ (by decide), u2_k _ _ _ _ (by decide), u2_k _ _ _ _ (by decide), u2_k _ _ _ _ (by decide), u2_k _ _ _ _ (by decide), u2_k _ _ _ _ (by decide), u2_s]) ?_
  refine v_ild1 dX9_init_343 ?_
  refine v_icm1 dX9_init_344 ?_
  refine v_iast dX9_init_345 rfl (by omega) ⟨rfl, by decide, by decide⟩ ?_
  refine v_inc1 dX9_init_346 rfl ?_
  rw [nI_1 0]
  refine v_goto (tgt := 333) dX9_init_349 (by decide) ?_
  refine v_ild1 dX9_init_333 ?_
  refine v_bipush (v := nI 6) dX9_init_334 (by decide) ?_
  refine v_icmp_ge (tgt := 352) dX9_init_336 (by decide) (fun h => absurd h (nI_ge (by omega) (by decide))) (fun _ => ?_)
  refine v_ald0 dX9_init_339 ?_
  refine v_getP (q := 68) dX9_init_340 fl_X9_109 (show lay 39 = _ from rfl) rfl (by omega) (by rw [u2_k _ _ _ _ (by decide), u2_k _ _ _ _ (by decide), u2_k _ _ _ _ (by decide), u2_k _ _ _ _ (by decide), u2_k _ _ _ _ (by decide), u2_k _ _ _ _ (by decide), u2_k _ _ _ _ (by decide), u2_k _ _ _ _ (by decide), u2_k _ _ _ _ (by decide), u2_s]) ?_
  refine v_ild1 dX9_init_343 ?_
  refine v_icm1 dX9_init_344 ?_
  refine v_iast dX9_init_345 rfl (by omega) ⟨rfl, by decide, by decide⟩ ?_
  refine v_inc1 dX9_init_346 rfl ?_
  rw [nI_1 1]
  refine v_goto (tgt := 333) dX9_init_349 (by decide) ?_
  refine v_ild1 dX9_init_333 ?_
  refine v_bipush (v := nI 6) dX9_init_334 (by decide) ?_
  refine v_icmp_ge (tgt := 352) dX9_init_336 (by decide) (fun h => absurd h (nI_ge (by omega) (by decide))) (fun _ => ?_)
  refine v_ald0 dX9_init_339 ?_
  refine v_getP (q := 68) dX9_init_340 fl_X9_109 (show lay 39 = _ from rfl) rfl (by omega) (by rw [u2_k _ _ _ _ (by decide), u2_k _ _ _ _ (by decide), u2_k _ _ _ _ (by decide), u2_k _ _ _ _ (by decide), u2_k _ _ _ _ (by decide), u2_k _ _ _ _ (by decide), u2_k _ _ _ _ (by decide), u2_k _ _ _ _ (by decide), u2_k _ _ _ _ (by decide), u2_s]) ?_
  refine v_ild1 dX9_init_343 ?_
  refine v_icm1 dX9_init_344 ?_
  refine v_iast dX9_init_345 rfl (by omega) ⟨rfl, by decide, by decide⟩ ?_
  refine v_inc1 dX9_init_346 rfl ?_
  rw [nI_1 2]
  refine v_goto (tgt := 333) dX9_init_349 (by decide) ?_
  refine v_ild1 dX9_init_333 ?_
  refine v_bipush (v := nI 6) dX9_init_334 (by decide) ?_
  refine v_icmp_ge (tgt := 352) dX9_init_336 (by decide) (fun h => absurd h (nI_ge (by omega) (by decide))) (fun _ => ?_)
  refine v_ald0 dX9_init_339 ?_
  refine v_getP (q := 68) dX9_init_340 fl_X9_109 (show lay 39 = _ from rfl) rfl (by omega) (by rw [u2_k _ _ _ _ (by decide), u2_k _ _ _ _ (by decide), u2_k _ _ _ _ (by decide), u2_k _ _ _ _ (by decide), u2_k _ _ _ _ (by decide), u2_k _ _ _ _ (by decide), u2_k _ _ _ _ (by decide), u2_k _ _ _ _ (by decide), u2_k _ _ _ _ (by decide), u2_s]) ?_
  refine v_ild1 dX9_init_343 ?_
  refine v_icm1 dX9_init_344 ?_
  refine v_iast dX9_init_345 rfl (by omega) ⟨rfl, by decide, by decide⟩ ?_
  refine v_inc1 dX9_init_346 rfl ?_
  rw [nI_1 3]
  refine v_goto (tgt := 333) dX9_init_349 (by decide) ?_
  refine v_ild1 dX9_init_333 ?_
  refine v_bipush (v := nI 6) dX9_init_334 (by decide) ?_
  refine v_icmp_ge (tgt := 352) dX9_init_336 (by decide) (fun h => absurd h (nI_ge (by omega) (by decide))) (fun _ => ?_)
  refine v_ald0 dX9_init_339 ?_
  refine v_getP (q := 68) dX9_init_340 fl_X9_109 (show lay 39 = _ from rfl) rfl (by omega) (by rw [u2_k _ _ _ _ (by decide), u2_k _ _ _ _ (by decide), u2_k _ _ _ _ (by decide), u2_k _ _ _ _ (by decide), u2_k _ _ _ _ (by decide), u2_k _ _ _ _ (by decide), u2_k _ _ _ _ (by decide), u2_k _ _ _ _ (by decide), u2_k _ _ _ _ (by decide), u2_s]) ?_
  refine v_ild1 dX9_init_343 ?_
  refine v_icm1 dX9_init_344 ?_
  refine v_iast dX9_init_345 rfl (by omega) ⟨rfl, by decide, by decide⟩ ?_
  refine v_inc1 dX9_init_346 rfl ?_
  rw [nI_1 4]
  refine v_goto (tgt := 333) dX9_init_349 (by decide) ?_
  refine v_ild1 dX9_init_333 ?_
  refine v_bipush (v := nI 6) dX9_init_334 (by decide) ?_
  refine v_icmp_ge (tgt := 352) dX9_init_336 (by decide) (fun h => absurd h (nI_ge (by omega) (by decide))) (fun _ => ?_)
  refine v_ald0 dX9_init_339 ?_
  refine v_getP (q := 68) dX9_init_340 fl_X9_109 (show lay 39 = _ from rfl) rfl (by omega) (by rw [u2_k _ _ _ _ (by decide), u2_k _ _ _ _ (by decide), u2_k _ _ _ _ (by decide), u2_k _ _ _ _ (by decide), u2_k _ _ _ _ (by decide), u2_k _ _ _ _ (by decide), u2_k _ _ _ _ (by decide), u2_k _ _ _ _ (by decide), u2_k _ _ _ _ (by decide), u2_s]) ?_
  refine v_ild1 dX9_init_343 ?_
  refine v_icm1 dX9_init_344 ?_
  refine v_iast dX9_init_345 rfl (by omega) ⟨rfl, by decide, by decide⟩ ?_
  refine v_inc1 dX9_init_346 rfl ?_
  rw [nI_1 5]
  refine v_goto (tgt := 333) dX9_init_349 (by decide) ?_
  refine v_ild1 dX9_init_333 ?_
  refine v_bipush (v := nI 6) dX9_init_334 (by decide) ?_
  refine v_icmp_ge (tgt := 352) dX9_init_336 (by decide) (fun _ => ?_) (fun h => absurd (nI_le (by omega) (by decide)) h)
  exact v_retV dX9_init_352 trivial ⟨rfl, rfl⟩
