set_option maxRecDepth 4000 in
theorem c_X8_isBlock {G : GG} {μ : Mem} {b : Int32} : Cn G yX8_isBlock cX8_isBlock 1 (some .boolean) 0 0 0 [.int b] μ (Is (some (.int (bI (inR b 6)))) μ) := by
  refine Cn.of' (by decide) (Nat.le_of_ble_eq_true rfl) rfl ?_
  refine v_ild0 dX8_isBlock_0 ?_
  refine v_if_lt (tgt := 14) dX8_isBlock_1 (by decide) (fun h1 => ?_) (fun h1 => ?_)
  · refine v_icN (n := 0) dX8_isBlock_14 (by decide) ?_
    exact v_retI dX8_isBlock_15 (by first | exact Or.inl rfl | exact Or.inr rfl | exact bI_01) (by refine ⟨?_, rfl⟩; simp [bI, *])
  · refine v_ild0 dX8_isBlock_4 ?_
    refine v_bipush (v := nI 6) dX8_isBlock_5 (by decide) ?_
    refine v_icmp_ge (tgt := 14) dX8_isBlock_7 (by decide) (fun h7 => ?_) (fun h7 => ?_)
    · refine v_icN (n := 0) dX8_isBlock_14 (by decide) ?_
      exact v_retI dX8_isBlock_15 (by first | exact Or.inl rfl | exact Or.inr rfl | exact bI_01) (by refine ⟨?_, rfl⟩; simp [bI, *])
    · refine v_icN (n := 1) dX8_isBlock_10 (by decide) ?_
      refine v_goto (tgt := 15) dX8_isBlock_11 (by decide) ?_
      exact v_retI dX8_isBlock_15 (by first | exact Or.inl rfl | exact Or.inr rfl | exact bI_01) (by refine ⟨?_, rfl⟩; simp [bI, *])

set_option maxRecDepth 4000 in
theorem c_X8_isLike {G : GG} {μ : Mem} {b : Int32} : Cn G yX8_isLike cX8_isLike 1 (some .boolean) 0 0 0 [.int b] μ (Is (some (.int (bI (inR b 4)))) μ) := by
  refine Cn.of' (by decide) (Nat.le_of_ble_eq_true rfl) rfl ?_
  refine v_ild0 dX8_isLike_0 ?_
  refine v_if_lt (tgt := 13) dX8_isLike_1 (by decide) (fun h1 => ?_) (fun h1 => ?_)
  · refine v_icN (n := 0) dX8_isLike_13 (by decide) ?_
    exact v_retI dX8_isLike_14 (by first | exact Or.inl rfl | exact Or.inr rfl | exact bI_01) (by refine ⟨?_, rfl⟩; simp [bI, *])
  · refine v_ild0 dX8_isLike_4 ?_
    refine v_icN (n := 4) dX8_isLike_5 (by decide) ?_
    refine v_icmp_ge (tgt := 13) dX8_isLike_6 (by decide) (fun h6 => ?_) (fun h6 => ?_)
    · refine v_icN (n := 0) dX8_isLike_13 (by decide) ?_
      exact v_retI dX8_isLike_14 (by first | exact Or.inl rfl | exact Or.inr rfl | exact bI_01) (by refine ⟨?_, rfl⟩; simp [bI, *])
    · refine v_icN (n := 1) dX8_isLike_9 (by decide) ?_
      refine v_goto (tgt := 14) dX8_isLike_10 (by decide) ?_
      exact v_retI dX8_isLike_14 (by first | exact Or.inl rfl | exact Or.inr rfl | exact bI_01) (by refine ⟨?_, rfl⟩; simp [bI, *])

set_option maxRecDepth 4000 in
theorem c_X8_isShelf {G : GG} {μ : Mem} {b : Int32} : Cn G yX8_isShelf cX8_isShelf 1 (some .boolean) 0 0 0 [.int b] μ (Is (some (.int (bI (inR b 8)))) μ) := by
  refine Cn.of' (by decide) (Nat.le_of_ble_eq_true rfl) rfl ?_
  refine v_ild0 dX8_isShelf_0 ?_
  refine v_if_lt (tgt := 14) dX8_isShelf_1 (by decide) (fun h1 => ?_) (fun h1 => ?_)
  · refine v_icN (n := 0) dX8_isShelf_14 (by decide) ?_
    exact v_retI dX8_isShelf_15 (by first | exact Or.inl rfl | exact Or.inr rfl | exact bI_01) (by refine ⟨?_, rfl⟩; simp [bI, *])
  · refine v_ild0 dX8_isShelf_4 ?_
    refine v_bipush (v := nI 8) dX8_isShelf_5 (by decide) ?_
    refine v_icmp_ge (tgt := 14) dX8_isShelf_7 (by decide) (fun h7 => ?_) (fun h7 => ?_)
    · refine v_icN (n := 0) dX8_isShelf_14 (by decide) ?_
      exact v_retI dX8_isShelf_15 (by first | exact Or.inl rfl | exact Or.inr rfl | exact bI_01) (by refine ⟨?_, rfl⟩; simp [bI, *])
    · refine v_icN (n := 1) dX8_isShelf_10 (by decide) ?_
      refine v_goto (tgt := 15) dX8_isShelf_11 (by decide) ?_
      exact v_retI dX8_isShelf_15 (by first | exact Or.inl rfl | exact Or.inr rfl | exact bI_01) (by refine ⟨?_, rfl⟩; simp [bI, *])

set_option maxRecDepth 4000 in
theorem c_X8_isDoor {G : GG} {dc : Nat} {I : Nat → Nat → Int32} {L : Nat → Nat → Int64} {b : Int32} : Cn G yX8_isDoor cX8_isDoor 2 (some .boolean) 0 0 0 [.ref 0, .int b] (Mm dc I L) (Is (some (.int (bI (¬ b < 0 ∧ ¬ I 0 7 ≤ b)))) (Mm dc I L)) := by
  refine Cn.of' (by decide) (Nat.le_of_ble_eq_true rfl) rfl ?_
  refine v_ild1 dX8_isDoor_0 ?_
  refine v_if_lt (tgt := 16) dX8_isDoor_1 (by decide) (fun h1 => ?_) (fun h1 => ?_)
  · refine v_icN (n := 0) dX8_isDoor_16 (by decide) ?_
    exact v_retI dX8_isDoor_17 (by first | exact Or.inl rfl | exact Or.inr rfl | exact bI_01) (by refine ⟨?_, rfl⟩; simp [bI, *])
  · refine v_ild1 dX8_isDoor_4 ?_
    refine v_ald0 dX8_isDoor_5 ?_
    refine v_getI dX8_isDoor_6 fl_X8_69 (by first | rfl | exact lay_door (by omega) | exact lay_dt (by omega) | exact lay_da (by omega) | exact lay_sh (by omega) | exact lay_se (by omega)) rfl (by omega) ?_
    refine v_icmp_ge (tgt := 16) dX8_isDoor_9 (by decide) (fun h9 => ?_) (fun h9 => ?_)
    · refine v_icN (n := 0) dX8_isDoor_16 (by decide) ?_
      exact v_retI dX8_isDoor_17 (by first | exact Or.inl rfl | exact Or.inr rfl | exact bI_01) (by refine ⟨?_, rfl⟩; simp [bI, *])
    · refine v_icN (n := 1) dX8_isDoor_12 (by decide) ?_
      refine v_goto (tgt := 17) dX8_isDoor_13 (by decide) ?_
      exact v_retI dX8_isDoor_17 (by first | exact Or.inl rfl | exact Or.inr rfl | exact bI_01) (by refine ⟨?_, rfl⟩; simp [bI, *])

set_option maxRecDepth 4000 in
theorem c_X4_isRow {G : GG} {dc : Nat} {I : Nat → Nat → Int32} {L : Nat → Nat → Int64} {s : Nat} (hs : s < 8) : Cn G yX4_isRow cX4_isRow 1 (some .boolean) 0 0 0 [.ref (23 + 2 * s)] (Mm dc I L) (Is (some (.int (bI (¬ I (23 + 2 * s) 1 = -1)))) (Mm dc I L)) := by
  refine Cn.of' (by decide) (Nat.le_of_ble_eq_true rfl) rfl ?_
  refine v_ald0 dX4_isRow_0 ?_
  refine v_getI dX4_isRow_1 fl_X4_15 (by first | rfl | exact lay_door (by omega) | exact lay_dt (by omega) | exact lay_da (by omega) | exact lay_sh (by omega) | exact lay_se (by omega)) rfl (by omega) ?_
  refine v_icm1 dX4_isRow_4 ?_
  refine v_icmp_eq (tgt := 12) dX4_isRow_5 (by decide) (fun h5 => ?_) (fun h5 => ?_)
  · refine v_icN (n := 0) dX4_isRow_12 (by decide) ?_
    exact v_retI dX4_isRow_13 (by first | exact Or.inl rfl | exact Or.inr rfl | exact bI_01) (by refine ⟨?_, rfl⟩; simp [bI, *])
  · refine v_icN (n := 1) dX4_isRow_8 (by decide) ?_
    refine v_goto (tgt := 13) dX4_isRow_9 (by decide) ?_
    exact v_retI dX4_isRow_13 (by first | exact Or.inl rfl | exact Or.inr rfl | exact bI_01) (by refine ⟨?_, rfl⟩; simp [bI, *])

set_option maxRecDepth 4000 in
theorem c_X4_isDoor {G : GG} {dc : Nat} {I : Nat → Nat → Int32} {L : Nat → Nat → Int64} {s : Nat} (hs : s < 8) : Cn G yX4_isDoor cX4_isDoor 1 (some .boolean) 0 0 0 [.ref (23 + 2 * s)] (Mm dc I L) (Is (some (.int (bI (¬ I (23 + 2 * s) 3 = -1)))) (Mm dc I L)) := by
  refine Cn.of' (by decide) (Nat.le_of_ble_eq_true rfl) rfl ?_
  refine v_ald0 dX4_isDoor_0 ?_
  refine v_getI dX4_isDoor_1 fl_X4_19 (by first | rfl | exact lay_door (by omega) | exact lay_dt (by omega) | exact lay_da (by omega) | exact lay_sh (by omega) | exact lay_se (by omega)) rfl (by omega) ?_
  refine v_icm1 dX4_isDoor_4 ?_
  refine v_icmp_eq (tgt := 12) dX4_isDoor_5 (by decide) (fun h5 => ?_) (fun h5 => ?_)
  · refine v_icN (n := 0) dX4_isDoor_12 (by decide) ?_
    exact v_retI dX4_isDoor_13 (by first | exact Or.inl rfl | exact Or.inr rfl | exact bI_01) (by refine ⟨?_, rfl⟩; simp [bI, *])
  · refine v_icN (n := 1) dX4_isDoor_8 (by decide) ?_
    refine v_goto (tgt := 13) dX4_isDoor_9 (by decide) ?_
    exact v_retI dX4_isDoor_13 (by first | exact Or.inl rfl | exact Or.inr rfl | exact bI_01) (by refine ⟨?_, rfl⟩; simp [bI, *])

set_option maxRecDepth 4000 in
theorem c_X4_hasElement {G : GG} {dc : Nat} {I : Nat → Nat → Int32} {L : Nat → Nat → Int64} {s : Nat} {i : Int32} (hs : s < 8) : Cn G yX4_hasElement cX4_hasElement 2 (some .boolean) 0 0 0 [.ref (23 + 2 * s), .int i] (Mm dc I L) (Is (some (.int (bI (¬ i < 0 ∧ ¬ I (23 + 2 * s) 2 ≤ i)))) (Mm dc I L)) := by
  refine Cn.of' (by decide) (Nat.le_of_ble_eq_true rfl) rfl ?_
  refine v_ild1 dX4_hasElement_0 ?_
  refine v_if_lt (tgt := 16) dX4_hasElement_1 (by decide) (fun h1 => ?_) (fun h1 => ?_)
  · refine v_icN (n := 0) dX4_hasElement_16 (by decide) ?_
    exact v_retI dX4_hasElement_17 (by first | exact Or.inl rfl | exact Or.inr rfl | exact bI_01) (by refine ⟨?_, rfl⟩; simp [bI, *])
  · refine v_ild1 dX4_hasElement_4 ?_
    refine v_ald0 dX4_hasElement_5 ?_
    refine v_getI dX4_hasElement_6 fl_X4_22 (by first | rfl | exact lay_door (by omega) | exact lay_dt (by omega) | exact lay_da (by omega) | exact lay_sh (by omega) | exact lay_se (by omega)) rfl (by omega) ?_
    refine v_icmp_ge (tgt := 16) dX4_hasElement_9 (by decide) (fun h9 => ?_) (fun h9 => ?_)
    · refine v_icN (n := 0) dX4_hasElement_16 (by decide) ?_
      exact v_retI dX4_hasElement_17 (by first | exact Or.inl rfl | exact Or.inr rfl | exact bI_01) (by refine ⟨?_, rfl⟩; simp [bI, *])
    · refine v_icN (n := 1) dX4_hasElement_12 (by decide) ?_
      refine v_goto (tgt := 17) dX4_hasElement_13 (by decide) ?_
      exact v_retI dX4_hasElement_17 (by first | exact Or.inl rfl | exact Or.inr rfl | exact bI_01) (by refine ⟨?_, rfl⟩; simp [bI, *])

set_option maxRecDepth 4000 in
theorem c_X4_putNothing {G : GG} {dc : Nat} {I : Nat → Nat → Int32} {L : Nat → Nat → Int64} {s : Nat} (hs : s < 8) : Cn G yX4_putNothing cX4_putNothing 1 none 0 0 0 [.ref (23 + 2 * s)] (Mm dc I L) (Is none (Mm dc (u2 (u2 (u2 I (23 + 2 * s) 1 (-1)) (23 + 2 * s) 2 (nI 0)) (23 + 2 * s) 3 (-1)) L)) := by
  refine Cn.of' (by decide) (Nat.le_of_ble_eq_true rfl) rfl ?_
  refine v_ald0 dX4_putNothing_0 ?_
  refine v_icm1 dX4_putNothing_1 ?_
  refine v_putI dX4_putNothing_2 fl_X4_15 ft_4_1 (by first | rfl | exact lay_door (by omega) | exact lay_dt (by omega) | exact lay_da (by omega) | exact lay_sh (by omega) | exact lay_se (by omega)) rfl (by omega) ?_
  refine v_ald0 dX4_putNothing_5 ?_
  refine v_icN (n := 0) dX4_putNothing_6 (by decide) ?_
  refine v_putI dX4_putNothing_7 fl_X4_22 ft_4_2 (by first | rfl | exact lay_door (by omega) | exact lay_dt (by omega) | exact lay_da (by omega) | exact lay_sh (by omega) | exact lay_se (by omega)) rfl (by omega) ?_
  refine v_ald0 dX4_putNothing_10 ?_
  refine v_icm1 dX4_putNothing_11 ?_
  refine v_putI dX4_putNothing_12 fl_X4_19 ft_4_3 (by first | rfl | exact lay_door (by omega) | exact lay_dt (by omega) | exact lay_da (by omega) | exact lay_sh (by omega) | exact lay_se (by omega)) rfl (by omega) ?_
  exact v_retV dX4_putNothing_15 trivial ⟨rfl, rfl⟩

set_option maxRecDepth 4000 in
theorem c_X4_putDoor {G : GG} {dc : Nat} {I : Nat → Nat → Int32} {L : Nat → Nat → Int64} {s : Nat} {d : Int32} (hs : s < 8) : Cn G yX4_putDoor cX4_putDoor 2 none 1 0 0 [.ref (23 + 2 * s), .int d] (Mm dc I L) (Is none (Mm dc (u2 (u2 (u2 (u2 I (23 + 2 * s) 1 (-1)) (23 + 2 * s) 2 (nI 0)) (23 + 2 * s) 3 (-1)) (23 + 2 * s) 3 d) L)) := by
  refine Cn.of' (by decide) (Nat.le_of_ble_eq_true rfl) rfl ?_
  refine v_ald0 dX4_putDoor_0 ?_
  refine v_V0n (c_X4_putNothing hs) lk_X4_25 dX4_putDoor_1 (by decide) (Nat.le_of_ble_eq_true rfl) (by first | rfl | exact lay_door (by omega) | exact lay_dt (by omega) | exact lay_da (by omega) | exact lay_sh (by omega) | exact lay_se (by omega)) (show _ < 78 + 3 * _ by omega) ?_
  refine v_ald0 dX4_putDoor_4 ?_
  refine v_ild1 dX4_putDoor_5 ?_
  refine v_putI dX4_putDoor_6 fl_X4_19 ft_4_3 (by first | rfl | exact lay_door (by omega) | exact lay_dt (by omega) | exact lay_da (by omega) | exact lay_sh (by omega) | exact lay_se (by omega)) rfl (by omega) ?_
  exact v_retV dX4_putDoor_9 trivial ⟨rfl, rfl⟩

set_option maxRecDepth 4000 in
theorem c_X4_contents {G : GG} {dc : Nat} {I : Nat → Nat → Int32} {L : Nat → Nat → Int64} {s : Nat} (hs : s < 8) : Cn G yX4_contents cX4_contents 1 (some .int) 1 0 0 [.ref (23 + 2 * s)] (Mm dc I L) (Is (some (.int (if ¬ I (23 + 2 * s) 1 = -1 then nI 100 + I (23 + 2 * s) 1 else I (23 + 2 * s) 3))) (Mm dc I L)) := by
  refine Cn.of' (by decide) (Nat.le_of_ble_eq_true rfl) rfl ?_
  refine v_ald0 dX4_contents_0 ?_
  refine v_V0 (c_X4_isRow hs) lk_X4_34 dX4_contents_1 (by decide) (Nat.le_of_ble_eq_true rfl) (by first | rfl | exact lay_door (by omega) | exact lay_dt (by omega) | exact lay_da (by omega) | exact lay_sh (by omega) | exact lay_se (by omega)) (show _ < 78 + 3 * _ by omega) ?_
  refine v_ifeq_b (tgt := 17) dX4_contents_4 (by decide) (fun h4 => ?_) (fun h4 => ?_)
  · refine v_ald0 dX4_contents_17 ?_
    refine v_getI dX4_contents_18 fl_X4_19 (by first | rfl | exact lay_door (by omega) | exact lay_dt (by omega) | exact lay_da (by omega) | exact lay_sh (by omega) | exact lay_se (by omega)) rfl (by omega) ?_
    exact v_retI dX4_contents_21 trivial (by refine ⟨?_, rfl⟩; simp [bI, *])
  · refine v_bipush (v := nI 100) dX4_contents_7 (by decide) ?_
    refine v_ald0 dX4_contents_9 ?_
    refine v_getI dX4_contents_10 fl_X4_15 (by first | rfl | exact lay_door (by omega) | exact lay_dt (by omega) | exact lay_da (by omega) | exact lay_sh (by omega) | exact lay_se (by omega)) rfl (by omega) ?_
    refine v_iadd dX4_contents_13 ?_
    refine v_goto (tgt := 21) dX4_contents_14 (by decide) ?_
    exact v_retI dX4_contents_21 trivial (by refine ⟨?_, rfl⟩; simp [bI, *])

set_option maxRecDepth 4000 in
theorem c_X4_fitAsRow {G : GG} {dc : Nat} {I : Nat → Nat → Int32} {L : Nat → Nat → Int64} {s : Nat} (hs : s < 8) : Cn G yX4_fitAsRow cX4_fitAsRow 1 (some .int) 1 0 0 [.ref (23 + 2 * s)] (Mm dc I L) (Is (some (.int (if ¬ I (23 + 2 * s) 3 = -1 then -2 else if ¬ I (23 + 2 * s) 1 = -1 then nI 0 else -3))) (Mm dc I L)) := by
  refine Cn.of' (by decide) (Nat.le_of_ble_eq_true rfl) rfl ?_
  refine v_ald0 dX4_fitAsRow_0 ?_
  refine v_V0 (c_X4_isDoor hs) lk_X4_38 dX4_fitAsRow_1 (by decide) (Nat.le_of_ble_eq_true rfl) (by first | rfl | exact lay_door (by omega) | exact lay_dt (by omega) | exact lay_da (by omega) | exact lay_sh (by omega) | exact lay_se (by omega)) (show _ < 78 + 3 * _ by omega) ?_
  refine v_ifeq_b (tgt := 10) dX4_fitAsRow_4 (by decide) (fun h4 => ?_) (fun h4 => ?_)
  · refine v_ald0 dX4_fitAsRow_10 ?_
    refine v_V0 (c_X4_isRow hs) lk_X4_34 dX4_fitAsRow_11 (by decide) (Nat.le_of_ble_eq_true rfl) (by first | rfl | exact lay_door (by omega) | exact lay_dt (by omega) | exact lay_da (by omega) | exact lay_sh (by omega) | exact lay_se (by omega)) (show _ < 78 + 3 * _ by omega) ?_
    refine v_ifeq_b (tgt := 21) dX4_fitAsRow_14 (by decide) (fun h14 => ?_) (fun h14 => ?_)
    · refine v_bipush (v := -3) dX4_fitAsRow_21 (by decide) ?_
      exact v_retI dX4_fitAsRow_23 trivial (by refine ⟨?_, rfl⟩; simp [bI, *])
    · refine v_icN (n := 0) dX4_fitAsRow_17 (by decide) ?_
      refine v_goto (tgt := 23) dX4_fitAsRow_18 (by decide) ?_
      exact v_retI dX4_fitAsRow_23 trivial (by refine ⟨?_, rfl⟩; simp [bI, *])
  · refine v_bipush (v := -2) dX4_fitAsRow_7 (by decide) ?_
    exact v_retI dX4_fitAsRow_9 trivial (by refine ⟨?_, rfl⟩; simp [bI, *])

set_option maxRecDepth 4000 in
theorem c_X4_fitAsDoor {G : GG} {dc : Nat} {I : Nat → Nat → Int32} {L : Nat → Nat → Int64} {s : Nat} (hs : s < 8) : Cn G yX4_fitAsDoor cX4_fitAsDoor 1 (some .int) 1 0 0 [.ref (23 + 2 * s)] (Mm dc I L) (Is (some (.int (if ¬ I (23 + 2 * s) 1 = -1 then -2 else if ¬ I (23 + 2 * s) 3 = -1 then nI 0 else -3))) (Mm dc I L)) := by
  refine Cn.of' (by decide) (Nat.le_of_ble_eq_true rfl) rfl ?_
  refine v_ald0 dX4_fitAsDoor_0 ?_
  refine v_V0 (c_X4_isRow hs) lk_X4_34 dX4_fitAsDoor_1 (by decide) (Nat.le_of_ble_eq_true rfl) (by first | rfl | exact lay_door (by omega) | exact lay_dt (by omega) | exact lay_da (by omega) | exact lay_sh (by omega) | exact lay_se (by omega)) (show _ < 78 + 3 * _ by omega) ?_
  refine v_ifeq_b (tgt := 10) dX4_fitAsDoor_4 (by decide) (fun h4 => ?_) (fun h4 => ?_)
  · refine v_ald0 dX4_fitAsDoor_10 ?_
    refine v_V0 (c_X4_isDoor hs) lk_X4_38 dX4_fitAsDoor_11 (by decide) (Nat.le_of_ble_eq_true rfl) (by first | rfl | exact lay_door (by omega) | exact lay_dt (by omega) | exact lay_da (by omega) | exact lay_sh (by omega) | exact lay_se (by omega)) (show _ < 78 + 3 * _ by omega) ?_
    refine v_ifeq_b (tgt := 21) dX4_fitAsDoor_14 (by decide) (fun h14 => ?_) (fun h14 => ?_)
    · refine v_bipush (v := -3) dX4_fitAsDoor_21 (by decide) ?_
      exact v_retI dX4_fitAsDoor_23 trivial (by refine ⟨?_, rfl⟩; simp [bI, *])
    · refine v_icN (n := 0) dX4_fitAsDoor_17 (by decide) ?_
      refine v_goto (tgt := 23) dX4_fitAsDoor_18 (by decide) ?_
      exact v_retI dX4_fitAsDoor_23 trivial (by refine ⟨?_, rfl⟩; simp [bI, *])
  · refine v_bipush (v := -2) dX4_fitAsDoor_7 (by decide) ?_
    exact v_retI dX4_fitAsDoor_9 trivial (by refine ⟨?_, rfl⟩; simp [bI, *])
