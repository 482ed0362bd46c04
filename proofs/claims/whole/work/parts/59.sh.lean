/-! ===== the component: ways among hidden cells ===== -/
abbrev stC (I : Nat → Nat → Int32) (a b : Nat) : Prop := adj a b ∧ sbit (I 19 3) (nI (clN a b)) ∧ (a < 6 ∨ ¬ I 20 (clN a b) ≤ 0)
theorem nI_min {a b : Nat} (ha : a < 2 ^ 31) (hb : b < 2 ^ 31) : (if nI b < nI a then nI b else nI a) = nI (min a b) := by
  by_cases h : b < a
  · rw [if_pos ((nI_ltI hb ha).mpr h), Nat.min_eq_right (by omega)]
  · rw [if_neg (fun z => h ((nI_ltI hb ha).mp z)), Nat.min_eq_left (by omega)]
theorem nI_max {a b : Nat} (ha : a < 2 ^ 31) (hb : b < 2 ^ 31) : (if nI a < nI b then nI b else nI a) = nI (max a b) := by
  by_cases h : a < b
  · rw [if_pos ((nI_ltI ha hb).mpr h), Nat.max_eq_right (by omega)]
  · rw [if_neg (fun z => h ((nI_ltI ha hb).mp z)), Nat.max_eq_left (by omega)]
theorem clN_mm {a b : Nat} (h : adj a b) : min a b * 4 + max a b - 6 = clN a b := by
  unfold clN
  rcases h with h | h
  · rw [if_pos h.1, Nat.min_eq_left (by omega), Nat.max_eq_right (by omega)]; omega
  · rw [if_neg (by omega), Nat.min_eq_right (by omega), Nat.max_eq_left (by omega)]; omega

set_option maxRecDepth 4000 in
theorem c_X5_cellOf {G : GG} {μ : Mem} {x y : Int32} {a b : Nat} (e1 : x = nI a) (e2 : y = nI b) (h : adj a b) : Cn G yX5_cellOf cX5_cellOf 2 (some .int) 1 0 0 [.int x, .int y] μ (Is (some (.int (nI (clN a b)))) μ) := by
  subst e1
  subst e2
  refine Cn.of' (by decide) (Nat.le_of_ble_eq_true rfl) rfl ?_
  refine v_ild0 dX5_cellOf_0 ?_
  refine v_ild1 dX5_cellOf_1 ?_
  refine v_mmin dX5_cellOf_2 lj_X5_42 (by decide) (Nat.le_of_ble_eq_true rfl) ?_
  refine v_e0 (congrArg Value.int (nI_min (by omega) (by omega))) ?_
  refine v_icN (n := 4) dX5_cellOf_5 (by decide) ?_
  refine v_imul dX5_cellOf_6 ?_
  refine v_ild0 dX5_cellOf_7 ?_
  refine v_ild1 dX5_cellOf_8 ?_
  refine v_mmax dX5_cellOf_9 lj_X5_63 (by decide) (Nat.le_of_ble_eq_true rfl) ?_
  refine v_e0 (congrArg Value.int (nI_max (by omega) (by omega))) ?_
  refine v_iadd dX5_cellOf_12 ?_
  refine v_bipush (v := nI 6) dX5_cellOf_13 (by decide) ?_
  refine v_isub dX5_cellOf_15 ?_
  refine v_e0 (congrArg Value.int (show _ = nI (clN a b) from by rw [pk_mul, nI_add, pk_sub (by rcases h with h | h <;> omega), clN_mm h])) ?_
  exact v_retI dX5_cellOf_16 trivial ⟨rfl, rfl⟩

set_option maxRecDepth 4000 in
theorem c_X5_canStep {G : GG} {dc : Nat} {I : Nat → Nat → Int32} {L : Nat → Nat → Int64} {x y : Int32} {a b : Nat} (e1 : x = nI a) (e2 : y = nI b) (ha : a < 10) (hb : b < 10) : Cn G yX5_canStep cX5_canStep 4 (some .boolean) 2 0 0 [.ref 19, .int x, .int y] (Mm dc I L) (Is (some (.int (bI (stC I a b)))) (Mm dc I L)) := by
  subst e1
  subst e2
  have ha6 := nI_leI (a := 6) (b := a) (by decide) (by omega)
  have hb6 := nI_leI (a := 6) (b := b) (by decide) (by omega)
  refine Cn.of' (by decide) (Nat.le_of_ble_eq_true rfl) rfl ?_
  refine v_ild1 dX5_canStep_0 ?_
  refine v_bipush (v := nI 6) dX5_canStep_1 (by decide) ?_
  refine v_icmp_ge (tgt := 10) dX5_canStep_3 (by decide) (fun h3 => ?_) (fun h3 => ?_)
  · refine v_icN (n := 0) dX5_canStep_10 (by decide) ?_
    refine v_ild2 dX5_canStep_11 ?_
    refine v_bipush (v := nI 6) dX5_canStep_12 (by decide) ?_
    refine v_icmp_ge (tgt := 21) dX5_canStep_14 (by decide) (fun h14 => ?_) (fun h14 => ?_)
    · refine v_icN (n := 0) dX5_canStep_21 (by decide) ?_
      refine v_icmp_ne (tgt := 27) dX5_canStep_22 (by decide) (fun h22 => absurd rfl h22) (fun h22 => ?_)
      rw [ha6] at h3
      rw [hb6] at h14
      refine v_icN (n := 0) dX5_canStep_25 (by decide) ?_
      exact v_retI dX5_canStep_26 (by first | exact Or.inl rfl | exact Or.inr rfl | exact bI_01) (by refine ⟨?_, rfl⟩; rw [bI_f (fun z => by have := z.1; omega)])
    · refine v_icN (n := 1) dX5_canStep_17 (by decide) ?_
      refine v_goto (tgt := 22) dX5_canStep_18 (by decide) ?_
      refine v_icmp_ne (tgt := 27) dX5_canStep_22 (by decide) (fun h22 => ?_) (fun h22 => absurd h22 (by decide))
      rw [ha6] at h3
      rw [hb6] at h14
      have hadj : adj a b := by omega
      have hl := clN_lt hadj
      refine v_ild1 dX5_canStep_27 ?_
      refine v_ild2 dX5_canStep_28 ?_
      refine v_S2 (c_X5_cellOf rfl rfl hadj) lk_X5_60 dX5_canStep_29 (by decide) (Nat.le_of_ble_eq_true rfl) ?_
      refine v_ist3 dX5_canStep_32 rfl ?_
      refine v_ald0 dX5_canStep_33 ?_
      refine v_getI dX5_canStep_34 fl_X5_29 (by first | rfl | exact lay_door (by omega) | exact lay_dt (by omega) | exact lay_da (by omega) | exact lay_sh (by omega) | exact lay_se (by omega)) rfl (by omega) ?_
      refine v_ild3 dX5_canStep_37 ?_
      refine v_ishr dX5_canStep_38 ?_
      refine v_icN (n := 1) dX5_canStep_39 (by decide) ?_
      refine v_iand dX5_canStep_40 ?_
      refine v_if_eq (tgt := 63) dX5_canStep_41 (by decide) (fun h41 => ?_) (fun h41 => ?_)
      · refine v_icN (n := 0) dX5_canStep_63 (by decide) ?_
        exact v_retI dX5_canStep_64 (by first | exact Or.inl rfl | exact Or.inr rfl | exact bI_01) (by refine ⟨?_, rfl⟩; rw [bI_f (fun z => z.2.1 h41)])
      · refine v_ild1 dX5_canStep_44 ?_
        refine v_bipush (v := nI 6) dX5_canStep_45 (by decide) ?_
        refine v_icmp_lt (tgt := 59) dX5_canStep_47 (by decide) (fun h47 => ?_) (fun h47 => ?_)
        · refine v_icN (n := 1) dX5_canStep_59 (by decide) ?_
          refine v_goto (tgt := 64) dX5_canStep_60 (by decide) ?_
          exact v_retI dX5_canStep_64 (by first | exact Or.inl rfl | exact Or.inr rfl | exact bI_01) (by refine ⟨?_, rfl⟩; rw [bI_t ⟨hadj, h41, Or.inl ((nI_ltI (by omega) (by decide)).mp h47)⟩])
        · refine v_ald0 dX5_canStep_50 ?_
          refine v_getP (q := 20) dX5_canStep_51 fl_X5_11 (by first | rfl | exact lay_door (by omega) | exact lay_dt (by omega) | exact lay_da (by omega) | exact lay_sh (by omega) | exact lay_se (by omega)) rfl (by omega) rfl ?_
          refine v_ild3 dX5_canStep_54 ?_
          refine v_iald dX5_canStep_55 (by first | rfl | exact lay_door (by omega) | exact lay_dt (by omega) | exact lay_da (by omega) | exact lay_sh (by omega) | exact lay_se (by omega)) (by omega) ⟨rfl, hl, by decide⟩ ?_
          refine v_if_le (tgt := 63) dX5_canStep_56 (by decide) (fun h56 => ?_) (fun h56 => ?_)
          · refine v_icN (n := 0) dX5_canStep_63 (by decide) ?_
            exact v_retI dX5_canStep_64 (by first | exact Or.inl rfl | exact Or.inr rfl | exact bI_01) (by refine ⟨?_, rfl⟩; rw [bI_f (fun z => z.2.2.elim (fun w => h47 ((nI_ltI (by omega) (by decide)).mpr w)) (fun w => w h56))])
          · refine v_icN (n := 1) dX5_canStep_59 (by decide) ?_
            refine v_goto (tgt := 64) dX5_canStep_60 (by decide) ?_
            exact v_retI dX5_canStep_64 (by first | exact Or.inl rfl | exact Or.inr rfl | exact bI_01) (by refine ⟨?_, rfl⟩; rw [bI_t ⟨hadj, h41, Or.inr h56⟩])
  · refine v_icN (n := 1) dX5_canStep_6 (by decide) ?_
    refine v_goto (tgt := 11) dX5_canStep_7 (by decide) ?_
    refine v_ild2 dX5_canStep_11 ?_
    refine v_bipush (v := nI 6) dX5_canStep_12 (by decide) ?_
    refine v_icmp_ge (tgt := 21) dX5_canStep_14 (by decide) (fun h14 => ?_) (fun h14 => ?_)
    · refine v_icN (n := 0) dX5_canStep_21 (by decide) ?_
      refine v_icmp_ne (tgt := 27) dX5_canStep_22 (by decide) (fun h22 => ?_) (fun h22 => absurd h22 (by decide))
      rw [ha6] at h3
      rw [hb6] at h14
      have hadj : adj a b := by omega
      have hl := clN_lt hadj
      refine v_ild1 dX5_canStep_27 ?_
      refine v_ild2 dX5_canStep_28 ?_
      refine v_S2 (c_X5_cellOf rfl rfl hadj) lk_X5_60 dX5_canStep_29 (by decide) (Nat.le_of_ble_eq_true rfl) ?_
      refine v_ist3 dX5_canStep_32 rfl ?_
      refine v_ald0 dX5_canStep_33 ?_
      refine v_getI dX5_canStep_34 fl_X5_29 (by first | rfl | exact lay_door (by omega) | exact lay_dt (by omega) | exact lay_da (by omega) | exact lay_sh (by omega) | exact lay_se (by omega)) rfl (by omega) ?_
      refine v_ild3 dX5_canStep_37 ?_
      refine v_ishr dX5_canStep_38 ?_
      refine v_icN (n := 1) dX5_canStep_39 (by decide) ?_
      refine v_iand dX5_canStep_40 ?_
      refine v_if_eq (tgt := 63) dX5_canStep_41 (by decide) (fun h41 => ?_) (fun h41 => ?_)
      · refine v_icN (n := 0) dX5_canStep_63 (by decide) ?_
        exact v_retI dX5_canStep_64 (by first | exact Or.inl rfl | exact Or.inr rfl | exact bI_01) (by refine ⟨?_, rfl⟩; rw [bI_f (fun z => z.2.1 h41)])
      · refine v_ild1 dX5_canStep_44 ?_
        refine v_bipush (v := nI 6) dX5_canStep_45 (by decide) ?_
        refine v_icmp_lt (tgt := 59) dX5_canStep_47 (by decide) (fun h47 => ?_) (fun h47 => ?_)
        · refine v_icN (n := 1) dX5_canStep_59 (by decide) ?_
          refine v_goto (tgt := 64) dX5_canStep_60 (by decide) ?_
          exact v_retI dX5_canStep_64 (by first | exact Or.inl rfl | exact Or.inr rfl | exact bI_01) (by refine ⟨?_, rfl⟩; rw [bI_t ⟨hadj, h41, Or.inl ((nI_ltI (by omega) (by decide)).mp h47)⟩])
        · refine v_ald0 dX5_canStep_50 ?_
          refine v_getP (q := 20) dX5_canStep_51 fl_X5_11 (by first | rfl | exact lay_door (by omega) | exact lay_dt (by omega) | exact lay_da (by omega) | exact lay_sh (by omega) | exact lay_se (by omega)) rfl (by omega) rfl ?_
          refine v_ild3 dX5_canStep_54 ?_
          refine v_iald dX5_canStep_55 (by first | rfl | exact lay_door (by omega) | exact lay_dt (by omega) | exact lay_da (by omega) | exact lay_sh (by omega) | exact lay_se (by omega)) (by omega) ⟨rfl, hl, by decide⟩ ?_
          refine v_if_le (tgt := 63) dX5_canStep_56 (by decide) (fun h56 => ?_) (fun h56 => ?_)
          · refine v_icN (n := 0) dX5_canStep_63 (by decide) ?_
            exact v_retI dX5_canStep_64 (by first | exact Or.inl rfl | exact Or.inr rfl | exact bI_01) (by refine ⟨?_, rfl⟩; rw [bI_f (fun z => z.2.2.elim (fun w => h47 ((nI_ltI (by omega) (by decide)).mpr w)) (fun w => w h56))])
          · refine v_icN (n := 1) dX5_canStep_59 (by decide) ?_
            refine v_goto (tgt := 64) dX5_canStep_60 (by decide) ?_
            exact v_retI dX5_canStep_64 (by first | exact Or.inl rfl | exact Or.inr rfl | exact bI_01) (by refine ⟨?_, rfl⟩; rw [bI_t ⟨hadj, h41, Or.inr h56⟩])
    · refine v_icN (n := 1) dX5_canStep_17 (by decide) ?_
      refine v_goto (tgt := 22) dX5_canStep_18 (by decide) ?_
      refine v_icmp_ne (tgt := 27) dX5_canStep_22 (by decide) (fun h22 => absurd rfl h22) (fun h22 => ?_)
      rw [ha6] at h3
      rw [hb6] at h14
      refine v_icN (n := 0) dX5_canStep_25 (by decide) ?_
      exact v_retI dX5_canStep_26 (by first | exact Or.inl rfl | exact Or.inr rfl | exact bI_01) (by refine ⟨?_, rfl⟩; rw [bI_f (fun z => by have := z.1; omega)])

def agW (I J : Nat → Nat → Int32) : Prop := ∀ x j, x ≠ 21 → x ≠ 22 → J x j = I x j
theorem agW.st {I J : Nat → Nat → Int32} (h : agW I J) (a b : Nat) : stC J a b ↔ stC I a b := by
  unfold stC
  rw [h 19 3 (by decide) (by decide), h 20 (clN a b) (by decide) (by decide)]
def fwQ (dc : Nat) (I : Nat → Nat → Int32) (L : Nat → Nat → Int64) (s g : Nat) : Option Value → Mem → Prop := fun r μ => ∃ J, μ = Mm dc J L ∧ r = some (.int (bI (rch (stC I) s g))) ∧ agW I J ∧ (rch (stC I) s g → ∃ e q, BF (J 21) (J 22) (stC I) s e q ∧ vis e q g)

set_option maxRecDepth 4000 in
theorem lp_fwI {G : GG} {dc : Nat} {I : Nat → Nat → Int32} {L : Nat → Nat → Int64} {s g : Nat} {Q : Option Value → Mem → Prop} {i : Nat} (hk9 : ∀ (J : Nat → Nat → Int32) (e : Nat) (q : Nat → Nat) (b0 : Value), agW I J → BF (J 21) (J 22) (stC I) s e q → i < e → (∀ k, k < i + 1 → ∀ v, v < 10 → (stC I) (q k) v → vis e q v) → V G yX5_findWay cX5_findWay 6 (some .boolean) 3 0 0 117 [.ref 19, .int (nI s), .int (nI g), .int (nI e), .int (nI i), b0] [] (Mm dc J L) Q) (k : Nat) : ∀ b, b + k = 10 → ∀ (J : Nat → Nat → Int32) (e : Nat) (q : Nat → Nat), agW I J → BF (J 21) (J 22) (stC I) s e q → i < e → (∀ k, k < i → ∀ v, v < 10 → (stC I) (q k) v → vis e q v) → (∀ v, v < b → (stC I) (q i) v → vis e q v) → V G yX5_findWay cX5_findWay 6 (some .boolean) 3 0 0 46 [.ref 19, .int (nI s), .int (nI g), .int (nI e), .int (nI i), .int (nI b)] [] (Mm dc J L) Q := by
  induction k with
  | zero =>
    intro b hbk J e q hJ hB hi hd hb2
    have hle := hB.le
    have hqi := hB.ql i hi
    refine v_ild5 dX5_findWay_46 ?_
    refine v_bipush (v := nI 10) dX5_findWay_48 (by decide) ?_
    refine v_icmp_ge (tgt := 117) dX5_findWay_50 (by decide) (fun h50 => ?_) (fun h50 => absurd (nI_le (by omega) (by omega)) h50)
    obtain rfl : b = 10 := by omega
    refine hk9 J e q _ hJ hB hi (fun k hk v hv hR => ?_)
    by_cases z : k = i
    · subst z; exact hb2 v hv hR
    · exact hd k (by omega) v hv hR
  | succ k ih =>
    intro b hbk J e q hJ hB hi hd hb2
    have hle := hB.le
    have hqi := hB.ql i hi
    refine v_ild5 dX5_findWay_46 ?_
    refine v_bipush (v := nI 10) dX5_findWay_48 (by decide) ?_
    refine v_icmp_ge (tgt := 117) dX5_findWay_50 (by decide) (fun h50 => absurd h50 (nI_ge (by omega) (by omega))) (fun h50 => ?_)
    have hvb := hB.vis_iff (v := b) (by omega)
    refine v_ald0 dX5_findWay_53 ?_
    refine v_getP (q := 21) dX5_findWay_54 fl_X5_17 (by first | rfl | exact lay_door (by omega) | exact lay_dt (by omega) | exact lay_da (by omega) | exact lay_sh (by omega) | exact lay_se (by omega)) rfl (by omega) rfl ?_
    refine v_ild5 dX5_findWay_57 ?_
    refine v_iald dX5_findWay_59 (by first | rfl | exact lay_door (by omega) | exact lay_dt (by omega) | exact lay_da (by omega) | exact lay_sh (by omega) | exact lay_se (by omega)) (by omega) ⟨rfl, by omega, by decide⟩ ?_
    refine v_icm1 dX5_findWay_60 ?_
    refine v_icmp_ne (tgt := 111) dX5_findWay_61 (by decide) (fun h61 => ?_) (fun h61 => ?_)
    · refine v_inc5 dX5_findWay_111 rfl ?_
      refine v_goto (tgt := 46) dX5_findWay_114 (by decide) ?_
      rw [nI_1 b]
      refine ih (b + 1) (by omega) J e q hJ hB hi hd (fun v hv hR => ?_)
      by_cases z : v = b
      · subst z
        exact (hvb.mpr h61)
      · exact hb2 v (by omega) hR
    · have hnv : ¬ vis e q b := fun z => hvb.mp z h61
      have hroom := hB.room (b := b) (by omega) hnv
      refine v_ild3 dX5_findWay_64 ?_
      refine v_bipush (v := nI 10) dX5_findWay_65 (by decide) ?_
      refine v_icmp_ge (tgt := 111) dX5_findWay_67 (by decide) (fun h67 => absurd h67 (nI_ge hroom (by decide))) (fun h67 => ?_)
      refine v_ald0 dX5_findWay_70 ?_
      refine v_ald0 dX5_findWay_71 ?_
      refine v_getP (q := 22) dX5_findWay_72 fl_X5_20 (by first | rfl | exact lay_door (by omega) | exact lay_dt (by omega) | exact lay_da (by omega) | exact lay_sh (by omega) | exact lay_se (by omega)) rfl (by omega) rfl ?_
      refine v_ild4 dX5_findWay_75 ?_
      refine v_iald dX5_findWay_77 (by first | rfl | exact lay_door (by omega) | exact lay_dt (by omega) | exact lay_da (by omega) | exact lay_sh (by omega) | exact lay_se (by omega)) (by omega) ⟨rfl, by omega, by decide⟩ ?_
      refine v_e0 (congrArg Value.int hqi.2) ?_
      refine v_ild5 dX5_findWay_78 ?_
      refine v_V2 (c_X5_canStep rfl rfl hqi.1 (by omega)) lk_X5_57 dX5_findWay_80 (by decide) (Nat.le_of_ble_eq_true rfl) (by first | rfl | exact lay_door (by omega) | exact lay_dt (by omega) | exact lay_da (by omega) | exact lay_sh (by omega) | exact lay_se (by omega)) (show _ < 78 + 3 * _ by omega) ?_
      refine v_ifeq_b (tgt := 111) dX5_findWay_83 (by decide) (fun h83 => ?_) (fun h83 => ?_)
      · refine v_inc5 dX5_findWay_111 rfl ?_
        refine v_goto (tgt := 46) dX5_findWay_114 (by decide) ?_
        rw [nI_1 b]
        refine ih (b + 1) (by omega) J e q hJ hB hi hd (fun v hv hR => ?_)
        by_cases z : v = b
        · subst z
          exact (absurd ((hJ.st _ _).mpr hR) h83)
        · exact hb2 v (by omega) hR
      · refine v_ald0 dX5_findWay_86 ?_
        refine v_getP (q := 21) dX5_findWay_87 fl_X5_17 (by first | rfl | exact lay_door (by omega) | exact lay_dt (by omega) | exact lay_da (by omega) | exact lay_sh (by omega) | exact lay_se (by omega)) rfl (by omega) rfl ?_
        refine v_ild5 dX5_findWay_90 ?_
        refine v_ald0 dX5_findWay_92 ?_
        refine v_getP (q := 22) dX5_findWay_93 fl_X5_20 (by first | rfl | exact lay_door (by omega) | exact lay_dt (by omega) | exact lay_da (by omega) | exact lay_sh (by omega) | exact lay_se (by omega)) rfl (by omega) rfl ?_
        refine v_ild4 dX5_findWay_96 ?_
        refine v_iald dX5_findWay_98 (by first | rfl | exact lay_door (by omega) | exact lay_dt (by omega) | exact lay_da (by omega) | exact lay_sh (by omega) | exact lay_se (by omega)) (by omega) ⟨rfl, by omega, by decide⟩ ?_
        refine v_e0 (congrArg Value.int hqi.2) ?_
        refine v_iast dX5_findWay_99 (by first | rfl | exact lay_door (by omega) | exact lay_dt (by omega) | exact lay_da (by omega) | exact lay_sh (by omega) | exact lay_se (by omega)) (by omega) ⟨rfl, by omega, by decide⟩ ?_
        refine v_ald0 dX5_findWay_100 ?_
        refine v_getP (q := 22) dX5_findWay_101 fl_X5_20 (by first | rfl | exact lay_door (by omega) | exact lay_dt (by omega) | exact lay_da (by omega) | exact lay_sh (by omega) | exact lay_se (by omega)) rfl (by omega) rfl ?_
        refine v_ild3 dX5_findWay_104 ?_
        refine v_ild5 dX5_findWay_105 ?_
        refine v_iast dX5_findWay_107 (by first | rfl | exact lay_door (by omega) | exact lay_dt (by omega) | exact lay_da (by omega) | exact lay_sh (by omega) | exact lay_se (by omega)) (by omega) ⟨rfl, by omega, by decide⟩ ?_
        refine v_inc3 dX5_findWay_108 rfl ?_
        refine v_inc5 dX5_findWay_111 rfl ?_
        refine v_goto (tgt := 46) dX5_findWay_114 (by decide) ?_
        have hRb : stC I (q i) b := (hJ.st _ _).mp h83
        rw [nI_1 b, nI_1 e]
        refine ih (b + 1) (by omega) _ (e + 1) (fun k => if k = e then b else q k) (fun x j h1 h2 => ?_) (hB.add hi hRb (by omega) hnv (fun v => ?_) (fun k => ?_)) (by omega) ?_ ?_
        · rw [u2_a _ _ _ _ h2, u2_a _ _ _ _ h1]; exact hJ x j h1 h2
        · rw [u2_a _ _ _ _ (by decide)]; by_cases z : v = b
          · rw [if_pos z, z, u2_s]
          · rw [if_neg z, u2_k _ _ _ _ z]
        · by_cases z : k = e
          · rw [if_pos z, z, u2_s]
          · rw [if_neg z, u2_k _ _ _ _ z, u2_a _ _ _ _ (by decide)]
        · intro k hk v hv hR
          have hR : stC I (q k) v := by have z := hR; rw [show (if k = e then b else q k) = q k from if_neg (by omega)] at z; exact z
          obtain ⟨k2, h1, h2⟩ := hd k hk v hv hR
          exact ⟨k2, by omega, (if_neg (by omega)).trans h2⟩
        · intro v hv hR
          have hR : stC I (q i) v := by have z := hR; rw [show (if i = e then b else q i) = q i from if_neg (by omega)] at z; exact z
          by_cases z : v = b
          · exact ⟨e, by omega, (if_pos rfl).trans z.symm⟩
          · obtain ⟨k2, h1, h2⟩ := hb2 v (by omega) hR
            exact ⟨k2, by omega, (if_neg (by omega)).trans h2⟩

set_option maxRecDepth 4000 in
theorem lp_fwO {G : GG} {dc : Nat} {I : Nat → Nat → Int32} {L : Nat → Nat → Int64} {s g : Nat} {Q : Option Value → Mem → Prop} (hg : g < 10) (hk9 : ∀ (J : Nat → Nat → Int32) (e i : Nat) (q : Nat → Nat) (b0 : Value), agW I J → BF (J 21) (J 22) (stC I) s e q → (vis e q g ∨ ∀ k, k < e → ∀ v, v < 10 → (stC I) (q k) v → vis e q v) → V G yX5_findWay cX5_findWay 6 (some .boolean) 3 0 0 123 [.ref 19, .int (nI s), .int (nI g), .int (nI e), .int (nI i), b0] [] (Mm dc J L) Q) (k : Nat) : ∀ i, i + k = 10 → ∀ (J : Nat → Nat → Int32) (e : Nat) (q : Nat → Nat) (b0 : Value), agW I J → BF (J 21) (J 22) (stC I) s e q → i ≤ e → (∀ k, k < i → ∀ v, v < 10 → (stC I) (q k) v → vis e q v) → V G yX5_findWay cX5_findWay 6 (some .boolean) 3 0 0 27 [.ref 19, .int (nI s), .int (nI g), .int (nI e), .int (nI i), b0] [] (Mm dc J L) Q := by
  induction k with
  | zero =>
    intro i hi J e q b0 hJ hB hie hd
    have hle := hB.le
    refine v_ild4 dX5_findWay_27 ?_
    refine v_ild3 dX5_findWay_29 ?_
    refine v_icmp_ge (tgt := 123) dX5_findWay_30 (by decide) (fun h30 => ?_) (fun h30 => absurd (nI_le (by omega) (by omega)) h30)
    exact hk9 J e i q _ hJ hB (Or.inr (fun k hk => hd k (by omega)))
  | succ k ih =>
    intro i hi J e q b0 hJ hB hie hd
    have hle := hB.le
    refine v_ild4 dX5_findWay_27 ?_
    refine v_ild3 dX5_findWay_29 ?_
    refine v_icmp_ge (tgt := 123) dX5_findWay_30 (by decide) (fun h30 => ?_) (fun h30 => ?_)
    · have hei : e = i := Nat.le_antisymm ((nI_leI (by omega) (by omega)).mp h30) hie
      exact hk9 J e i q _ hJ hB (Or.inr (fun k hk => hd k (by omega)))
    · have hie9 : i < e := Nat.lt_of_not_le fun z => h30 (nI_le z (by omega))
      refine v_ald0 dX5_findWay_33 ?_
      refine v_getP (q := 21) dX5_findWay_34 fl_X5_17 (by first | rfl | exact lay_door (by omega) | exact lay_dt (by omega) | exact lay_da (by omega) | exact lay_sh (by omega) | exact lay_se (by omega)) rfl (by omega) rfl ?_
      refine v_ild2 dX5_findWay_37 ?_
      refine v_iald dX5_findWay_38 (by first | rfl | exact lay_door (by omega) | exact lay_dt (by omega) | exact lay_da (by omega) | exact lay_sh (by omega) | exact lay_se (by omega)) (by omega) ⟨rfl, hg, by decide⟩ ?_
      refine v_icm1 dX5_findWay_39 ?_
      refine v_icmp_ne (tgt := 123) dX5_findWay_40 (by decide) (fun h40 => ?_) (fun h40 => ?_)
      · exact hk9 J e i q _ hJ hB (Or.inl ((hB.vis_iff hg).mpr h40))
      · refine v_icN (n := 0) dX5_findWay_43 (by decide) ?_
        refine v_ist5 dX5_findWay_44 rfl ?_
        refine lp_fwI (fun J1 e1 q1 b1 hJ1 hB1 hi1 hd1 => ?_) 10 0 (by omega) J e q hJ hB hie9 hd (fun v hv hR => absurd hv (Nat.not_lt_zero _))
        refine v_inc4 dX5_findWay_117 rfl ?_
        refine v_goto (tgt := 27) dX5_findWay_120 (by decide) ?_
        rw [nI_1 i]
        exact ih (i + 1) (by omega) J1 e1 q1 _ hJ1 hB1 (by omega) hd1

set_option maxRecDepth 4000 in
theorem lp_fwE {G : GG} {dc : Nat} {I : Nat → Nat → Int32} {L : Nat → Nat → Int64} {s g : Nat} {J : Nat → Nat → Int32} {e i : Nat} {q : Nat → Nat} {b0 : Value} (hg : g < 10) (hJ : agW I J) (hB : BF (J 21) (J 22) (stC I) s e q) (hor : vis e q g ∨ ∀ k, k < e → ∀ v, v < 10 → (stC I) (q k) v → vis e q v) : V G yX5_findWay cX5_findWay 6 (some .boolean) 3 0 0 123 [.ref 19, .int (nI s), .int (nI g), .int (nI e), .int (nI i), b0] [] (Mm dc J L) (fwQ dc I L s g) := by
  refine v_ald0 dX5_findWay_123 ?_
  refine v_getP (q := 21) dX5_findWay_124 fl_X5_17 (by first | rfl | exact lay_door (by omega) | exact lay_dt (by omega) | exact lay_da (by omega) | exact lay_sh (by omega) | exact lay_se (by omega)) rfl (by omega) rfl ?_
  refine v_ild2 dX5_findWay_127 ?_
  refine v_iald dX5_findWay_128 (by first | rfl | exact lay_door (by omega) | exact lay_dt (by omega) | exact lay_da (by omega) | exact lay_sh (by omega) | exact lay_se (by omega)) (by omega) ⟨rfl, hg, by decide⟩ ?_
  refine v_icm1 dX5_findWay_129 ?_
  refine v_icmp_eq (tgt := 137) dX5_findWay_130 (by decide) (fun h130 => ?_) (fun h130 => ?_)
  · refine v_icN (n := 0) dX5_findWay_137 (by decide) ?_
    exact v_retI dX5_findWay_138 (by first | exact Or.inl rfl | exact Or.inr rfl | exact bI_01) (by have hnv : ¬ vis e q g := fun z => (hB.vis_iff hg).mp z h130; have hcl := hor.resolve_left hnv; exact ⟨J, rfl, by rw [bI_f (hB.unreach hcl hnv)], hJ, fun z => absurd z (hB.unreach hcl hnv)⟩)
  · refine v_icN (n := 1) dX5_findWay_133 (by decide) ?_
    refine v_goto (tgt := 138) dX5_findWay_134 (by decide) ?_
    exact v_retI dX5_findWay_138 (by first | exact Or.inl rfl | exact Or.inr rfl | exact bI_01) (by have hv : vis e q g := (hB.vis_iff hg).mpr h130; exact ⟨J, rfl, by rw [bI_t (hB.reach hv)], hJ, fun _ => ⟨e, q, hB, hv⟩⟩)

set_option maxRecDepth 4000 in
theorem c_X5_findWay {G : GG} {dc : Nat} {I : Nat → Nat → Int32} {L : Nat → Nat → Int64} {x y : Int32} {s g : Nat} (e1 : x = nI s) (e2 : y = nI g) (hs : s < 10) (hg : g < 10) : Cn G yX5_findWay cX5_findWay 6 (some .boolean) 3 0 0 [.ref 19, .int x, .int y] (Mm dc I L) (fwQ dc I L s g) := by
  subst e1
  subst e2
  refine Cn.of' (by decide) (Nat.le_of_ble_eq_true rfl) rfl ?_
  refine v_ald0 dX5_findWay_0 ?_
  refine v_getP (q := 21) dX5_findWay_1 fl_X5_17 (by first | rfl | exact lay_door (by omega) | exact lay_dt (by omega) | exact lay_da (by omega) | exact lay_sh (by omega) | exact lay_se (by omega)) rfl (by omega) rfl ?_
  refine v_icm1 dX5_findWay_4 ?_
  refine v_S2n (c_J7_fill_53178 (N := 10) rfl (by decide) (show 21 < 78 + 3 * _ by omega)) lk_X5_51 dX5_findWay_5 (by decide) (Nat.le_of_ble_eq_true rfl) ?_
  refine v_ald0 dX5_findWay_8 ?_
  refine v_getP (q := 21) dX5_findWay_9 fl_X5_17 (by first | rfl | exact lay_door (by omega) | exact lay_dt (by omega) | exact lay_da (by omega) | exact lay_sh (by omega) | exact lay_se (by omega)) rfl (by omega) rfl ?_
  refine v_ild1 dX5_findWay_12 ?_
  refine v_ild1 dX5_findWay_13 ?_
  refine v_iast dX5_findWay_14 (by first | rfl | exact lay_door (by omega) | exact lay_dt (by omega) | exact lay_da (by omega) | exact lay_sh (by omega) | exact lay_se (by omega)) (by omega) ⟨rfl, hs, by decide⟩ ?_
  refine v_ald0 dX5_findWay_15 ?_
  refine v_getP (q := 22) dX5_findWay_16 fl_X5_20 (by first | rfl | exact lay_door (by omega) | exact lay_dt (by omega) | exact lay_da (by omega) | exact lay_sh (by omega) | exact lay_se (by omega)) rfl (by omega) rfl ?_
  refine v_icN (n := 0) dX5_findWay_19 (by decide) ?_
  refine v_ild1 dX5_findWay_20 ?_
  refine v_iast dX5_findWay_21 (by first | rfl | exact lay_door (by omega) | exact lay_dt (by omega) | exact lay_da (by omega) | exact lay_sh (by omega) | exact lay_se (by omega)) (by omega) ⟨rfl, by omega, by decide⟩ ?_
  refine v_icN (n := 1) dX5_findWay_22 (by decide) ?_
  refine v_ist3 dX5_findWay_23 rfl ?_
  refine v_icN (n := 0) dX5_findWay_24 (by decide) ?_
  refine v_ist4 dX5_findWay_25 rfl ?_
  refine lp_fwO hg (fun J e i q b0 hJ hB hor => lp_fwE hg hJ hB hor) 10 0 (by omega) _ 1 (fun _ => s) _ (fun x j h1 h2 => ?_) (BF.start hs (fun v hv => ?_) (u2_s _ _ _ _)) (by omega) (fun k hk => absurd hk (Nat.not_lt_zero _))
  · rw [u2_a _ _ _ _ h2, u2_a _ _ _ _ h1, fl2_o _ _ _ _ h1]
  · rw [u2_a _ _ _ _ (by decide)]
    by_cases z : v = s
    · rw [if_pos z, z, u2_s]
    · rw [if_neg z, u2_k _ _ _ _ z]; exact if_pos ⟨rfl, hv⟩
