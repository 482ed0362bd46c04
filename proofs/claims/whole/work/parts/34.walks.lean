abbrev isC (r c : Int32) : Prop := inR r 6 ∧ inR c 4

set_option maxRecDepth 4000 in
theorem c_X6_isCell {G : GG} {μ : Mem} {r c : Int32} : Cn G yX6_isCell cX6_isCell 2 (some .boolean) 0 0 0 [.int r, .int c] μ (Is (some (.int (bI (isC r c)))) μ) := by
  refine Cn.of' (by decide) (Nat.le_of_ble_eq_true rfl) rfl ?_
  refine v_ild0 dX6_isCell_0 ?_
  refine v_if_lt (tgt := 23) dX6_isCell_1 (by decide) (fun h1 => ?_) (fun h1 => ?_)
  · refine v_icN (n := 0) dX6_isCell_23 (by decide) ?_
    exact v_retI dX6_isCell_24 (by first | exact Or.inl rfl | exact Or.inr rfl | exact bI_01) (by rw [bI_f (fun z => z.1.1 h1)]; exact ⟨rfl, rfl⟩)
  · refine v_ild0 dX6_isCell_4 ?_
    refine v_bipush (v := nI 6) dX6_isCell_5 (by decide) ?_
    refine v_icmp_ge (tgt := 23) dX6_isCell_7 (by decide) (fun h7 => ?_) (fun h7 => ?_)
    · refine v_icN (n := 0) dX6_isCell_23 (by decide) ?_
      exact v_retI dX6_isCell_24 (by first | exact Or.inl rfl | exact Or.inr rfl | exact bI_01) (by rw [bI_f (fun z => z.1.2 h7)]; exact ⟨rfl, rfl⟩)
    · refine v_ild1 dX6_isCell_10 ?_
      refine v_if_lt (tgt := 23) dX6_isCell_11 (by decide) (fun h11 => ?_) (fun h11 => ?_)
      · refine v_icN (n := 0) dX6_isCell_23 (by decide) ?_
        exact v_retI dX6_isCell_24 (by first | exact Or.inl rfl | exact Or.inr rfl | exact bI_01) (by rw [bI_f (fun z => z.2.1 h11)]; exact ⟨rfl, rfl⟩)
      · refine v_ild1 dX6_isCell_14 ?_
        refine v_icN (n := 4) dX6_isCell_15 (by decide) ?_
        refine v_icmp_ge (tgt := 23) dX6_isCell_16 (by decide) (fun h16 => ?_) (fun h16 => ?_)
        · refine v_icN (n := 0) dX6_isCell_23 (by decide) ?_
          exact v_retI dX6_isCell_24 (by first | exact Or.inl rfl | exact Or.inr rfl | exact bI_01) (by rw [bI_f (fun z => z.2.2 h16)]; exact ⟨rfl, rfl⟩)
        · refine v_icN (n := 1) dX6_isCell_19 (by decide) ?_
          refine v_goto (tgt := 24) dX6_isCell_20 (by decide) ?_
          exact v_retI dX6_isCell_24 (by first | exact Or.inl rfl | exact Or.inr rfl | exact bI_01) (by rw [bI_t ⟨⟨h1, h7⟩, ⟨h11, h16⟩⟩]; exact ⟨rfl, rfl⟩)

set_option maxRecDepth 4000 in
theorem c_X6_isHidden {G : GG} {dc : Nat} {I : Nat → Nat → Int32} {L : Nat → Nat → Int64} {r c : Int32} : Cn G yX6_isHidden cX6_isHidden 3 (some .boolean) 0 0 0 [.ref 15, .int r, .int c] (Mm dc I L) (Is (some (.int (bI (sbit (I 15 4) (r * nI 4 + c))))) (Mm dc I L)) := by
  refine Cn.of' (by decide) (Nat.le_of_ble_eq_true rfl) rfl ?_
  refine v_ald0 dX6_isHidden_0 ?_
  refine v_getI dX6_isHidden_1 fl_X6_46 (by first | rfl | exact lay_door (by omega) | exact lay_dt (by omega) | exact lay_da (by omega) | exact lay_sh (by omega) | exact lay_se (by omega)) rfl (by omega) ?_
  refine v_ild1 dX6_isHidden_4 ?_
  refine v_icN (n := 4) dX6_isHidden_5 (by decide) ?_
  refine v_imul dX6_isHidden_6 ?_
  refine v_ild2 dX6_isHidden_7 ?_
  refine v_iadd dX6_isHidden_8 ?_
  refine v_ishr dX6_isHidden_9 ?_
  refine v_icN (n := 1) dX6_isHidden_10 (by decide) ?_
  refine v_iand dX6_isHidden_11 ?_
  refine v_if_eq (tgt := 19) dX6_isHidden_12 (by decide) (fun h12 => ?_) (fun h12 => ?_)
  · refine v_icN (n := 0) dX6_isHidden_19 (by decide) ?_
    exact v_retI dX6_isHidden_20 (by first | exact Or.inl rfl | exact Or.inr rfl | exact bI_01) (by rw [bI_f (fun z => z h12)]; exact ⟨rfl, rfl⟩)
  · refine v_icN (n := 1) dX6_isHidden_15 (by decide) ?_
    refine v_goto (tgt := 20) dX6_isHidden_16 (by decide) ?_
    exact v_retI dX6_isHidden_20 (by first | exact Or.inl rfl | exact Or.inr rfl | exact bI_01) (by rw [bI_t h12]; exact ⟨rfl, rfl⟩)

theorem isC_ix {r c : Int32} (h : isC r c) : ix (r * nI 4 + c) 24 (tn r * 4 + tn c) := by
  obtain ⟨e1, l1, -⟩ := ix_R (by decide) h.1
  obtain ⟨e2, l2, -⟩ := ix_R (by decide) h.2
  refine ⟨?_, by omega, by decide⟩
  rw [e1, e2, pk_mul, nI_add, tn_nI (by omega), tn_nI (by omega)]
def pSm (r c : Int32) (j : Nat) : Bool := decide ((r = nI 6 ∨ r = nI (j / 4)) ∧ (c = nI 4 ∨ c = nI (j % 4)))

set_option maxRecDepth 4000 in
theorem lp_sum {G : GG} {dc : Nat} {I : Nat → Nat → Int32} {L : Nat → Nat → Int64} {r c : Int32} (k : Nat) : ∀ i, i + k = 24 → ∀ u5 u6 : Value, V G yX6_sum cX6_sum 7 (some .int) 0 0 0 5 [.ref 15, .int r, .int c, .int (sC (pSm r c) (I 17) i), .int (nI i), u5, u6] [] (Mm dc I L) (Is (some (.int (sC (pSm r c) (I 17) 24))) (Mm dc I L)) := by
  induction k with
  | zero =>
    intro i hi u5 u6
    refine v_ild4 dX6_sum_5 ?_
    refine v_bipush (v := nI 24) dX6_sum_7 (by decide) ?_
    refine v_icmp_ge (tgt := 79) dX6_sum_9 (by decide) (fun h9 => ?_) (fun h9 => absurd (nI_le (by omega) (by omega)) h9)
    refine v_ild3 dX6_sum_79 ?_
    exact v_retI dX6_sum_80 trivial (by rw [show i = 24 by omega]; exact ⟨rfl, rfl⟩)
  | succ k ih =>
    intro i hi u5 u6
    refine v_ild4 dX6_sum_5 ?_
    refine v_bipush (v := nI 24) dX6_sum_7 (by decide) ?_
    refine v_icmp_ge (tgt := 79) dX6_sum_9 (by decide) (fun h9 => absurd h9 (nI_ge (by omega) (by omega))) (fun h9 => ?_)
    refine v_ild1 dX6_sum_12 ?_
    refine v_bipush (v := nI 6) dX6_sum_13 (by decide) ?_
    refine v_icmp_eq (tgt := 26) dX6_sum_15 (by decide) (fun h15 => ?_) (fun h15 => ?_)
    · refine v_icN (n := 1) dX6_sum_26 (by decide) ?_
      refine v_goto (tgt := 31) dX6_sum_27 (by decide) ?_
      refine v_ist5 dX6_sum_31 rfl ?_
      refine v_ild2 dX6_sum_33 ?_
      refine v_icN (n := 4) dX6_sum_34 (by decide) ?_
      refine v_icmp_eq (tgt := 46) dX6_sum_35 (by decide) (fun h35 => ?_) (fun h35 => ?_)
      · refine v_icN (n := 1) dX6_sum_46 (by decide) ?_
        refine v_goto (tgt := 51) dX6_sum_47 (by decide) ?_
        refine v_ist6 dX6_sum_51 rfl ?_
        refine v_ild5 dX6_sum_53 ?_
        refine v_if_eq (tgt := 73) dX6_sum_55 (by decide) (fun h55 => ?_) (fun h55 => ?_)
        · refine v_inc4 dX6_sum_73 rfl ?_
          refine v_goto (tgt := 5) dX6_sum_76 (by decide) ?_
          exact absurd h55 (by decide)
        · refine v_ild6 dX6_sum_58 ?_
          refine v_if_eq (tgt := 73) dX6_sum_60 (by decide) (fun h60 => ?_) (fun h60 => ?_)
          · refine v_inc4 dX6_sum_73 rfl ?_
            refine v_goto (tgt := 5) dX6_sum_76 (by decide) ?_
            exact absurd h60 (by decide)
          · refine v_ild3 dX6_sum_63 ?_
            refine v_ald0 dX6_sum_64 ?_
            refine v_getP (q := 17) dX6_sum_65 fl_X6_15 (by first | rfl | exact lay_door (by omega) | exact lay_dt (by omega) | exact lay_da (by omega) | exact lay_sh (by omega) | exact lay_se (by omega)) rfl (by omega) rfl ?_
            refine v_ild4 dX6_sum_68 ?_
            refine v_iald dX6_sum_70 (by first | rfl | exact lay_door (by omega) | exact lay_dt (by omega) | exact lay_da (by omega) | exact lay_sh (by omega) | exact lay_se (by omega)) (by omega) ⟨rfl, by omega, by decide⟩ ?_
            refine v_iadd dX6_sum_71 ?_
            refine v_ist3 dX6_sum_72 rfl ?_
            refine v_inc4 dX6_sum_73 rfl ?_
            refine v_goto (tgt := 5) dX6_sum_76 (by decide) ?_
            rw [nI_1 i]
            have h9 := ih (i + 1) (by omega)
            rw [sC_t (p := pSm r c) (decide_eq_true ⟨Or.inl h15, Or.inl h35⟩)] at h9
            exact h9 _ _
      · refine v_ild2 dX6_sum_38 ?_
        refine v_ild4 dX6_sum_39 ?_
        refine v_icN (n := 4) dX6_sum_41 (by decide) ?_
        refine v_irem dX6_sum_42 (by decide) ?_
        rw [pk_rem (by omega) (by decide) (by decide)]
        refine v_icmp_ne (tgt := 50) dX6_sum_43 (by decide) (fun h43 => ?_) (fun h43 => ?_)
        · refine v_icN (n := 0) dX6_sum_50 (by decide) ?_
          refine v_ist6 dX6_sum_51 rfl ?_
          refine v_ild5 dX6_sum_53 ?_
          refine v_if_eq (tgt := 73) dX6_sum_55 (by decide) (fun h55 => ?_) (fun h55 => ?_)
          · refine v_inc4 dX6_sum_73 rfl ?_
            refine v_goto (tgt := 5) dX6_sum_76 (by decide) ?_
            exact absurd h55 (by decide)
          · refine v_ild6 dX6_sum_58 ?_
            refine v_if_eq (tgt := 73) dX6_sum_60 (by decide) (fun h60 => ?_) (fun h60 => ?_)
            · refine v_inc4 dX6_sum_73 rfl ?_
              refine v_goto (tgt := 5) dX6_sum_76 (by decide) ?_
              rw [nI_1 i]
              have h9 := ih (i + 1) (by omega)
              rw [sC_f (p := pSm r c) (decide_eq_false (fun z => (fun z => z.elim h35 h43) z.2))] at h9
              exact h9 _ _
            · refine v_ild3 dX6_sum_63 ?_
              refine v_ald0 dX6_sum_64 ?_
              refine v_getP (q := 17) dX6_sum_65 fl_X6_15 (by first | rfl | exact lay_door (by omega) | exact lay_dt (by omega) | exact lay_da (by omega) | exact lay_sh (by omega) | exact lay_se (by omega)) rfl (by omega) rfl ?_
              refine v_ild4 dX6_sum_68 ?_
              refine v_iald dX6_sum_70 (by first | rfl | exact lay_door (by omega) | exact lay_dt (by omega) | exact lay_da (by omega) | exact lay_sh (by omega) | exact lay_se (by omega)) (by omega) ⟨rfl, by omega, by decide⟩ ?_
              refine v_iadd dX6_sum_71 ?_
              refine v_ist3 dX6_sum_72 rfl ?_
              refine v_inc4 dX6_sum_73 rfl ?_
              refine v_goto (tgt := 5) dX6_sum_76 (by decide) ?_
              exact absurd rfl h60
        · refine v_icN (n := 1) dX6_sum_46 (by decide) ?_
          refine v_goto (tgt := 51) dX6_sum_47 (by decide) ?_
          refine v_ist6 dX6_sum_51 rfl ?_
          refine v_ild5 dX6_sum_53 ?_
          refine v_if_eq (tgt := 73) dX6_sum_55 (by decide) (fun h55 => ?_) (fun h55 => ?_)
          · refine v_inc4 dX6_sum_73 rfl ?_
            refine v_goto (tgt := 5) dX6_sum_76 (by decide) ?_
            exact absurd h55 (by decide)
          · refine v_ild6 dX6_sum_58 ?_
            refine v_if_eq (tgt := 73) dX6_sum_60 (by decide) (fun h60 => ?_) (fun h60 => ?_)
            · refine v_inc4 dX6_sum_73 rfl ?_
              refine v_goto (tgt := 5) dX6_sum_76 (by decide) ?_
              exact absurd h60 (by decide)
            · refine v_ild3 dX6_sum_63 ?_
              refine v_ald0 dX6_sum_64 ?_
              refine v_getP (q := 17) dX6_sum_65 fl_X6_15 (by first | rfl | exact lay_door (by omega) | exact lay_dt (by omega) | exact lay_da (by omega) | exact lay_sh (by omega) | exact lay_se (by omega)) rfl (by omega) rfl ?_
              refine v_ild4 dX6_sum_68 ?_
              refine v_iald dX6_sum_70 (by first | rfl | exact lay_door (by omega) | exact lay_dt (by omega) | exact lay_da (by omega) | exact lay_sh (by omega) | exact lay_se (by omega)) (by omega) ⟨rfl, by omega, by decide⟩ ?_
              refine v_iadd dX6_sum_71 ?_
              refine v_ist3 dX6_sum_72 rfl ?_
              refine v_inc4 dX6_sum_73 rfl ?_
              refine v_goto (tgt := 5) dX6_sum_76 (by decide) ?_
              rw [nI_1 i]
              have h9 := ih (i + 1) (by omega)
              rw [sC_t (p := pSm r c) (decide_eq_true ⟨Or.inl h15, Or.inr h43⟩)] at h9
              exact h9 _ _
    · refine v_ild1 dX6_sum_18 ?_
      refine v_ild4 dX6_sum_19 ?_
      refine v_icN (n := 4) dX6_sum_21 (by decide) ?_
      refine v_idiv dX6_sum_22 (by decide) ?_
      rw [pk_div (by omega) (by decide) (by decide)]
      refine v_icmp_ne (tgt := 30) dX6_sum_23 (by decide) (fun h23 => ?_) (fun h23 => ?_)
      · refine v_icN (n := 0) dX6_sum_30 (by decide) ?_
        refine v_ist5 dX6_sum_31 rfl ?_
        refine v_ild2 dX6_sum_33 ?_
        refine v_icN (n := 4) dX6_sum_34 (by decide) ?_
        refine v_icmp_eq (tgt := 46) dX6_sum_35 (by decide) (fun h35 => ?_) (fun h35 => ?_)
        · refine v_icN (n := 1) dX6_sum_46 (by decide) ?_
          refine v_goto (tgt := 51) dX6_sum_47 (by decide) ?_
          refine v_ist6 dX6_sum_51 rfl ?_
          refine v_ild5 dX6_sum_53 ?_
          refine v_if_eq (tgt := 73) dX6_sum_55 (by decide) (fun h55 => ?_) (fun h55 => ?_)
          · refine v_inc4 dX6_sum_73 rfl ?_
            refine v_goto (tgt := 5) dX6_sum_76 (by decide) ?_
            rw [nI_1 i]
            have h9 := ih (i + 1) (by omega)
            rw [sC_f (p := pSm r c) (decide_eq_false (fun z => (fun z => z.elim h15 h23) z.1))] at h9
            exact h9 _ _
          · refine v_ild6 dX6_sum_58 ?_
            refine v_if_eq (tgt := 73) dX6_sum_60 (by decide) (fun h60 => ?_) (fun h60 => ?_)
            · refine v_inc4 dX6_sum_73 rfl ?_
              refine v_goto (tgt := 5) dX6_sum_76 (by decide) ?_
              exact absurd rfl h55
            · refine v_ild3 dX6_sum_63 ?_
              refine v_ald0 dX6_sum_64 ?_
              refine v_getP (q := 17) dX6_sum_65 fl_X6_15 (by first | rfl | exact lay_door (by omega) | exact lay_dt (by omega) | exact lay_da (by omega) | exact lay_sh (by omega) | exact lay_se (by omega)) rfl (by omega) rfl ?_
              refine v_ild4 dX6_sum_68 ?_
              refine v_iald dX6_sum_70 (by first | rfl | exact lay_door (by omega) | exact lay_dt (by omega) | exact lay_da (by omega) | exact lay_sh (by omega) | exact lay_se (by omega)) (by omega) ⟨rfl, by omega, by decide⟩ ?_
              refine v_iadd dX6_sum_71 ?_
              refine v_ist3 dX6_sum_72 rfl ?_
              refine v_inc4 dX6_sum_73 rfl ?_
              refine v_goto (tgt := 5) dX6_sum_76 (by decide) ?_
              exact absurd rfl h55
        · refine v_ild2 dX6_sum_38 ?_
          refine v_ild4 dX6_sum_39 ?_
          refine v_icN (n := 4) dX6_sum_41 (by decide) ?_
          refine v_irem dX6_sum_42 (by decide) ?_
          rw [pk_rem (by omega) (by decide) (by decide)]
          refine v_icmp_ne (tgt := 50) dX6_sum_43 (by decide) (fun h43 => ?_) (fun h43 => ?_)
          · refine v_icN (n := 0) dX6_sum_50 (by decide) ?_
            refine v_ist6 dX6_sum_51 rfl ?_
            refine v_ild5 dX6_sum_53 ?_
            refine v_if_eq (tgt := 73) dX6_sum_55 (by decide) (fun h55 => ?_) (fun h55 => ?_)
            · refine v_inc4 dX6_sum_73 rfl ?_
              refine v_goto (tgt := 5) dX6_sum_76 (by decide) ?_
              rw [nI_1 i]
              have h9 := ih (i + 1) (by omega)
              rw [sC_f (p := pSm r c) (decide_eq_false (fun z => (fun z => z.elim h15 h23) z.1))] at h9
              exact h9 _ _
            · refine v_ild6 dX6_sum_58 ?_
              refine v_if_eq (tgt := 73) dX6_sum_60 (by decide) (fun h60 => ?_) (fun h60 => ?_)
              · refine v_inc4 dX6_sum_73 rfl ?_
                refine v_goto (tgt := 5) dX6_sum_76 (by decide) ?_
                exact absurd rfl h55
              · refine v_ild3 dX6_sum_63 ?_
                refine v_ald0 dX6_sum_64 ?_
                refine v_getP (q := 17) dX6_sum_65 fl_X6_15 (by first | rfl | exact lay_door (by omega) | exact lay_dt (by omega) | exact lay_da (by omega) | exact lay_sh (by omega) | exact lay_se (by omega)) rfl (by omega) rfl ?_
                refine v_ild4 dX6_sum_68 ?_
                refine v_iald dX6_sum_70 (by first | rfl | exact lay_door (by omega) | exact lay_dt (by omega) | exact lay_da (by omega) | exact lay_sh (by omega) | exact lay_se (by omega)) (by omega) ⟨rfl, by omega, by decide⟩ ?_
                refine v_iadd dX6_sum_71 ?_
                refine v_ist3 dX6_sum_72 rfl ?_
                refine v_inc4 dX6_sum_73 rfl ?_
                refine v_goto (tgt := 5) dX6_sum_76 (by decide) ?_
                exact absurd rfl h55
          · refine v_icN (n := 1) dX6_sum_46 (by decide) ?_
            refine v_goto (tgt := 51) dX6_sum_47 (by decide) ?_
            refine v_ist6 dX6_sum_51 rfl ?_
            refine v_ild5 dX6_sum_53 ?_
            refine v_if_eq (tgt := 73) dX6_sum_55 (by decide) (fun h55 => ?_) (fun h55 => ?_)
            · refine v_inc4 dX6_sum_73 rfl ?_
              refine v_goto (tgt := 5) dX6_sum_76 (by decide) ?_
              rw [nI_1 i]
              have h9 := ih (i + 1) (by omega)
              rw [sC_f (p := pSm r c) (decide_eq_false (fun z => (fun z => z.elim h15 h23) z.1))] at h9
              exact h9 _ _
            · refine v_ild6 dX6_sum_58 ?_
              refine v_if_eq (tgt := 73) dX6_sum_60 (by decide) (fun h60 => ?_) (fun h60 => ?_)
              · refine v_inc4 dX6_sum_73 rfl ?_
                refine v_goto (tgt := 5) dX6_sum_76 (by decide) ?_
                exact absurd rfl h55
              · refine v_ild3 dX6_sum_63 ?_
                refine v_ald0 dX6_sum_64 ?_
                refine v_getP (q := 17) dX6_sum_65 fl_X6_15 (by first | rfl | exact lay_door (by omega) | exact lay_dt (by omega) | exact lay_da (by omega) | exact lay_sh (by omega) | exact lay_se (by omega)) rfl (by omega) rfl ?_
                refine v_ild4 dX6_sum_68 ?_
                refine v_iald dX6_sum_70 (by first | rfl | exact lay_door (by omega) | exact lay_dt (by omega) | exact lay_da (by omega) | exact lay_sh (by omega) | exact lay_se (by omega)) (by omega) ⟨rfl, by omega, by decide⟩ ?_
                refine v_iadd dX6_sum_71 ?_
                refine v_ist3 dX6_sum_72 rfl ?_
                refine v_inc4 dX6_sum_73 rfl ?_
                refine v_goto (tgt := 5) dX6_sum_76 (by decide) ?_
                exact absurd rfl h55
      · refine v_icN (n := 1) dX6_sum_26 (by decide) ?_
        refine v_goto (tgt := 31) dX6_sum_27 (by decide) ?_
        refine v_ist5 dX6_sum_31 rfl ?_
        refine v_ild2 dX6_sum_33 ?_
        refine v_icN (n := 4) dX6_sum_34 (by decide) ?_
        refine v_icmp_eq (tgt := 46) dX6_sum_35 (by decide) (fun h35 => ?_) (fun h35 => ?_)
        · refine v_icN (n := 1) dX6_sum_46 (by decide) ?_
          refine v_goto (tgt := 51) dX6_sum_47 (by decide) ?_
          refine v_ist6 dX6_sum_51 rfl ?_
          refine v_ild5 dX6_sum_53 ?_
          refine v_if_eq (tgt := 73) dX6_sum_55 (by decide) (fun h55 => ?_) (fun h55 => ?_)
          · refine v_inc4 dX6_sum_73 rfl ?_
            refine v_goto (tgt := 5) dX6_sum_76 (by decide) ?_
            exact absurd h55 (by decide)
          · refine v_ild6 dX6_sum_58 ?_
            refine v_if_eq (tgt := 73) dX6_sum_60 (by decide) (fun h60 => ?_) (fun h60 => ?_)
            · refine v_inc4 dX6_sum_73 rfl ?_
              refine v_goto (tgt := 5) dX6_sum_76 (by decide) ?_
              exact absurd h60 (by decide)
            · refine v_ild3 dX6_sum_63 ?_
              refine v_ald0 dX6_sum_64 ?_
              refine v_getP (q := 17) dX6_sum_65 fl_X6_15 (by first | rfl | exact lay_door (by omega) | exact lay_dt (by omega) | exact lay_da (by omega) | exact lay_sh (by omega) | exact lay_se (by omega)) rfl (by omega) rfl ?_
              refine v_ild4 dX6_sum_68 ?_
              refine v_iald dX6_sum_70 (by first | rfl | exact lay_door (by omega) | exact lay_dt (by omega) | exact lay_da (by omega) | exact lay_sh (by omega) | exact lay_se (by omega)) (by omega) ⟨rfl, by omega, by decide⟩ ?_
              refine v_iadd dX6_sum_71 ?_
              refine v_ist3 dX6_sum_72 rfl ?_
              refine v_inc4 dX6_sum_73 rfl ?_
              refine v_goto (tgt := 5) dX6_sum_76 (by decide) ?_
              rw [nI_1 i]
              have h9 := ih (i + 1) (by omega)
              rw [sC_t (p := pSm r c) (decide_eq_true ⟨Or.inr h23, Or.inl h35⟩)] at h9
              exact h9 _ _
        · refine v_ild2 dX6_sum_38 ?_
          refine v_ild4 dX6_sum_39 ?_
          refine v_icN (n := 4) dX6_sum_41 (by decide) ?_
          refine v_irem dX6_sum_42 (by decide) ?_
          rw [pk_rem (by omega) (by decide) (by decide)]
          refine v_icmp_ne (tgt := 50) dX6_sum_43 (by decide) (fun h43 => ?_) (fun h43 => ?_)
          · refine v_icN (n := 0) dX6_sum_50 (by decide) ?_
            refine v_ist6 dX6_sum_51 rfl ?_
            refine v_ild5 dX6_sum_53 ?_
            refine v_if_eq (tgt := 73) dX6_sum_55 (by decide) (fun h55 => ?_) (fun h55 => ?_)
            · refine v_inc4 dX6_sum_73 rfl ?_
              refine v_goto (tgt := 5) dX6_sum_76 (by decide) ?_
              exact absurd h55 (by decide)
            · refine v_ild6 dX6_sum_58 ?_
              refine v_if_eq (tgt := 73) dX6_sum_60 (by decide) (fun h60 => ?_) (fun h60 => ?_)
              · refine v_inc4 dX6_sum_73 rfl ?_
                refine v_goto (tgt := 5) dX6_sum_76 (by decide) ?_
                rw [nI_1 i]
                have h9 := ih (i + 1) (by omega)
                rw [sC_f (p := pSm r c) (decide_eq_false (fun z => (fun z => z.elim h35 h43) z.2))] at h9
                exact h9 _ _
              · refine v_ild3 dX6_sum_63 ?_
                refine v_ald0 dX6_sum_64 ?_
                refine v_getP (q := 17) dX6_sum_65 fl_X6_15 (by first | rfl | exact lay_door (by omega) | exact lay_dt (by omega) | exact lay_da (by omega) | exact lay_sh (by omega) | exact lay_se (by omega)) rfl (by omega) rfl ?_
                refine v_ild4 dX6_sum_68 ?_
                refine v_iald dX6_sum_70 (by first | rfl | exact lay_door (by omega) | exact lay_dt (by omega) | exact lay_da (by omega) | exact lay_sh (by omega) | exact lay_se (by omega)) (by omega) ⟨rfl, by omega, by decide⟩ ?_
                refine v_iadd dX6_sum_71 ?_
                refine v_ist3 dX6_sum_72 rfl ?_
                refine v_inc4 dX6_sum_73 rfl ?_
                refine v_goto (tgt := 5) dX6_sum_76 (by decide) ?_
                exact absurd rfl h60
          · refine v_icN (n := 1) dX6_sum_46 (by decide) ?_
            refine v_goto (tgt := 51) dX6_sum_47 (by decide) ?_
            refine v_ist6 dX6_sum_51 rfl ?_
            refine v_ild5 dX6_sum_53 ?_
            refine v_if_eq (tgt := 73) dX6_sum_55 (by decide) (fun h55 => ?_) (fun h55 => ?_)
            · refine v_inc4 dX6_sum_73 rfl ?_
              refine v_goto (tgt := 5) dX6_sum_76 (by decide) ?_
              exact absurd h55 (by decide)
            · refine v_ild6 dX6_sum_58 ?_
              refine v_if_eq (tgt := 73) dX6_sum_60 (by decide) (fun h60 => ?_) (fun h60 => ?_)
              · refine v_inc4 dX6_sum_73 rfl ?_
                refine v_goto (tgt := 5) dX6_sum_76 (by decide) ?_
                exact absurd h60 (by decide)
              · refine v_ild3 dX6_sum_63 ?_
                refine v_ald0 dX6_sum_64 ?_
                refine v_getP (q := 17) dX6_sum_65 fl_X6_15 (by first | rfl | exact lay_door (by omega) | exact lay_dt (by omega) | exact lay_da (by omega) | exact lay_sh (by omega) | exact lay_se (by omega)) rfl (by omega) rfl ?_
                refine v_ild4 dX6_sum_68 ?_
                refine v_iald dX6_sum_70 (by first | rfl | exact lay_door (by omega) | exact lay_dt (by omega) | exact lay_da (by omega) | exact lay_sh (by omega) | exact lay_se (by omega)) (by omega) ⟨rfl, by omega, by decide⟩ ?_
                refine v_iadd dX6_sum_71 ?_
                refine v_ist3 dX6_sum_72 rfl ?_
                refine v_inc4 dX6_sum_73 rfl ?_
                refine v_goto (tgt := 5) dX6_sum_76 (by decide) ?_
                rw [nI_1 i]
                have h9 := ih (i + 1) (by omega)
                rw [sC_t (p := pSm r c) (decide_eq_true ⟨Or.inr h23, Or.inr h43⟩)] at h9
                exact h9 _ _

set_option maxRecDepth 4000 in
theorem c_X6_sum {G : GG} {dc : Nat} {I : Nat → Nat → Int32} {L : Nat → Nat → Int64} {r c : Int32} : Cn G yX6_sum cX6_sum 7 (some .int) 0 0 0 [.ref 15, .int r, .int c] (Mm dc I L) (Is (some (.int (sC (pSm r c) (I 17) 24))) (Mm dc I L)) := by
  refine Cn.of' (by decide) (Nat.le_of_ble_eq_true rfl) rfl ?_
  refine v_icN (n := 0) dX6_sum_0 (by decide) ?_
  refine v_ist3 dX6_sum_1 rfl ?_
  refine v_icN (n := 0) dX6_sum_2 (by decide) ?_
  refine v_ist4 dX6_sum_3 rfl ?_
  exact lp_sum 24 0 (by omega) _ _

def telT (I : Nat → Nat → Int32) (r c : Int32) : Int32 := if I 15 5 = 0 then -1 else (if r < 0 then -1 else (if nI 6 < r then -1 else (if c < 0 then -1 else (if c ≤ nI 4 then (if isC r c then (if sbit (I 15 4) (r * nI 4 + c) then -2 else I 17 (tn r * 4 + tn c)) else sC (pSm r c) (I 17) 24) else -1))))

set_option maxRecDepth 4000 in
theorem c_X6_tell {G : GG} {dc : Nat} {I : Nat → Nat → Int32} {L : Nat → Nat → Int64} {r c : Int32} : Cn G yX6_tell cX6_tell 3 (some .int) 1 0 0 [.ref 15, .int r, .int c] (Mm dc I L) (Is (some (.int (telT I r c))) (Mm dc I L)) := by
  refine Cn.of' (by decide) (Nat.le_of_ble_eq_true rfl) rfl ?_
  refine v_ald0 dX6_tell_0 ?_
  refine v_getI dX6_tell_1 fl_X6_50 (by first | rfl | exact lay_door (by omega) | exact lay_dt (by omega) | exact lay_da (by omega) | exact lay_sh (by omega) | exact lay_se (by omega)) rfl (by omega) ?_
  refine v_if_eq (tgt := 26) dX6_tell_4 (by decide) (fun h4 => ?_) (fun h4 => ?_)
  · refine v_icm1 dX6_tell_26 ?_
    exact v_retI dX6_tell_27 trivial (by simp only [telT, if_pos h4]; exact ⟨rfl, rfl⟩)
  · refine v_ild1 dX6_tell_7 ?_
    refine v_if_lt (tgt := 26) dX6_tell_8 (by decide) (fun h8 => ?_) (fun h8 => ?_)
    · refine v_icm1 dX6_tell_26 ?_
      exact v_retI dX6_tell_27 trivial (by simp only [telT, if_neg h4, if_pos h8]; exact ⟨rfl, rfl⟩)
    · refine v_ild1 dX6_tell_11 ?_
      refine v_bipush (v := nI 6) dX6_tell_12 (by decide) ?_
      refine v_icmp_gt (tgt := 26) dX6_tell_14 (by decide) (fun h14 => ?_) (fun h14 => ?_)
      · refine v_icm1 dX6_tell_26 ?_
        exact v_retI dX6_tell_27 trivial (by simp only [telT, if_neg h4, if_neg h8, if_pos h14]; exact ⟨rfl, rfl⟩)
      · refine v_ild2 dX6_tell_17 ?_
        refine v_if_lt (tgt := 26) dX6_tell_18 (by decide) (fun h18 => ?_) (fun h18 => ?_)
        · refine v_icm1 dX6_tell_26 ?_
          exact v_retI dX6_tell_27 trivial (by simp only [telT, if_neg h4, if_neg h8, if_neg h14, if_pos h18]; exact ⟨rfl, rfl⟩)
        · refine v_ild2 dX6_tell_21 ?_
          refine v_icN (n := 4) dX6_tell_22 (by decide) ?_
          refine v_icmp_le (tgt := 28) dX6_tell_23 (by decide) (fun h23 => ?_) (fun h23 => ?_)
          · refine v_ild1 dX6_tell_28 ?_
            refine v_ild2 dX6_tell_29 ?_
            refine v_S2 c_X6_isCell lk_X6_32 dX6_tell_30 (by decide) (Nat.le_of_ble_eq_true rfl) ?_
            refine v_ifeq_b (tgt := 61) dX6_tell_33 (by decide) (fun h33 => ?_) (fun h33 => ?_)
            · refine v_ald0 dX6_tell_61 ?_
              refine v_ild1 dX6_tell_62 ?_
              refine v_ild2 dX6_tell_63 ?_
              refine v_V2 c_X6_sum lk_X6_63 dX6_tell_64 (by decide) (Nat.le_of_ble_eq_true rfl) (by first | rfl | exact lay_door (by omega) | exact lay_dt (by omega) | exact lay_da (by omega) | exact lay_sh (by omega) | exact lay_se (by omega)) (show _ < 78 + 3 * _ by omega) ?_
              exact v_retI dX6_tell_67 trivial (by simp only [telT, if_neg h4, if_neg h8, if_neg h14, if_neg h18, if_pos h23, if_neg h33]; exact ⟨rfl, rfl⟩)
            · refine v_ald0 dX6_tell_36 ?_
              refine v_ild1 dX6_tell_37 ?_
              refine v_ild2 dX6_tell_38 ?_
              refine v_V2 c_X6_isHidden lk_X6_60 dX6_tell_39 (by decide) (Nat.le_of_ble_eq_true rfl) (by first | rfl | exact lay_door (by omega) | exact lay_dt (by omega) | exact lay_da (by omega) | exact lay_sh (by omega) | exact lay_se (by omega)) (show _ < 78 + 3 * _ by omega) ?_
              refine v_ifeq_b (tgt := 50) dX6_tell_42 (by decide) (fun h42 => ?_) (fun h42 => ?_)
              · refine v_ald0 dX6_tell_50 ?_
                refine v_getP (q := 17) dX6_tell_51 fl_X6_15 (by first | rfl | exact lay_door (by omega) | exact lay_dt (by omega) | exact lay_da (by omega) | exact lay_sh (by omega) | exact lay_se (by omega)) rfl (by omega) rfl ?_
                refine v_ild1 dX6_tell_54 ?_
                refine v_icN (n := 4) dX6_tell_55 (by decide) ?_
                refine v_imul dX6_tell_56 ?_
                refine v_ild2 dX6_tell_57 ?_
                refine v_iadd dX6_tell_58 ?_
                refine v_iald dX6_tell_59 (by first | rfl | exact lay_door (by omega) | exact lay_dt (by omega) | exact lay_da (by omega) | exact lay_sh (by omega) | exact lay_se (by omega)) (by omega) (isC_ix h33) ?_
                exact v_retI dX6_tell_60 trivial (by simp only [telT, if_neg h4, if_neg h8, if_neg h14, if_neg h18, if_pos h23, if_pos h33, if_neg h42]; exact ⟨rfl, rfl⟩)
              · refine v_bipush (v := -2) dX6_tell_45 (by decide) ?_
                refine v_goto (tgt := 60) dX6_tell_47 (by decide) ?_
                exact v_retI dX6_tell_60 trivial (by simp only [telT, if_neg h4, if_neg h8, if_neg h14, if_neg h18, if_pos h23, if_pos h33, if_pos h42]; exact ⟨rfl, rfl⟩)
          · refine v_icm1 dX6_tell_26 ?_
            exact v_retI dX6_tell_27 trivial (by simp only [telT, if_neg h4, if_neg h8, if_neg h14, if_neg h18, if_neg h23]; exact ⟨rfl, rfl⟩)

set_option maxRecDepth 4000 in
theorem c_X8_told {G : GG} {dc : Nat} {I : Nat → Nat → Int32} {L : Nat → Nat → Int64} {r c : Int32} : Cn G yX8_told cX8_told 3 (some .int) 2 0 0 [.ref 0, .int r, .int c] (Mm dc I L) (Is (some (.int (telT I r c))) (Mm dc I L)) := by
  refine Cn.of' (by decide) (Nat.le_of_ble_eq_true rfl) rfl ?_
  refine v_ald0 dX8_told_0 ?_
  refine v_getP (q := 15) dX8_told_1 fl_X8_49 (by first | rfl | exact lay_door (by omega) | exact lay_dt (by omega) | exact lay_da (by omega) | exact lay_sh (by omega) | exact lay_se (by omega)) rfl (by omega) rfl ?_
  refine v_ild1 dX8_told_4 ?_
  refine v_ild2 dX8_told_5 ?_
  refine v_V2 c_X6_tell lk_X8_282 dX8_told_6 (by decide) (Nat.le_of_ble_eq_true rfl) (by first | rfl | exact lay_door (by omega) | exact lay_dt (by omega) | exact lay_da (by omega) | exact lay_sh (by omega) | exact lay_se (by omega)) (show _ < 78 + 3 * _ by omega) ?_
  exact v_retI dX8_told_9 trivial ⟨rfl, rfl⟩

set_option maxRecDepth 4000 in
theorem c_X6_draft {G : GG} {dc : Nat} {I : Nat → Nat → Int32} {L : Nat → Nat → Int64} {r c v : Int32} (hc : isC r c) : Cn G yX6_draft cX6_draft 4 none 1 0 0 [.ref 15, .int r, .int c, .int v] (Mm dc I L) (Is none (Mm dc (u2 I 16 (tn r * 4 + tn c) v) L)) := by
  refine Cn.of' (by decide) (Nat.le_of_ble_eq_true rfl) rfl ?_
  refine v_ild1 dX6_draft_0 ?_
  refine v_ild2 dX6_draft_1 ?_
  refine v_S2 c_X6_isCell lk_X6_32 dX6_draft_2 (by decide) (Nat.le_of_ble_eq_true rfl) ?_
  refine v_ifeq_b (tgt := 19) dX6_draft_5 (by decide) (fun h5 => absurd hc h5) (fun h5 => ?_)
  refine v_ald0 dX6_draft_8 ?_
  refine v_getP (q := 16) dX6_draft_9 fl_X6_11 (by first | rfl | exact lay_door (by omega) | exact lay_dt (by omega) | exact lay_da (by omega) | exact lay_sh (by omega) | exact lay_se (by omega)) rfl (by omega) rfl ?_
  refine v_ild1 dX6_draft_12 ?_
  refine v_icN (n := 4) dX6_draft_13 (by decide) ?_
  refine v_imul dX6_draft_14 ?_
  refine v_ild2 dX6_draft_15 ?_
  refine v_iadd dX6_draft_16 ?_
  refine v_ild3 dX6_draft_17 ?_
  refine v_iast dX6_draft_18 (by first | rfl | exact lay_door (by omega) | exact lay_dt (by omega) | exact lay_da (by omega) | exact lay_sh (by omega) | exact lay_se (by omega)) (by omega) (isC_ix hc) ?_
  exact v_retV dX6_draft_19 trivial ⟨rfl, rfl⟩

set_option maxRecDepth 4000 in
theorem c_X6_hiddenCells {G : GG} {dc : Nat} {I : Nat → Nat → Int32} {L : Nat → Nat → Int64} : Cn G yX6_hiddenCells cX6_hiddenCells 1 (some .int) 1 0 0 [.ref 15] (Mm dc I L) (Is (some (.int (bc32 (I 15 4)))) (Mm dc I L)) := by
  refine Cn.of' (by decide) (Nat.le_of_ble_eq_true rfl) rfl ?_
  refine v_ald0 dX6_hiddenCells_0 ?_
  refine v_getI dX6_hiddenCells_1 fl_X6_46 (by first | rfl | exact lay_door (by omega) | exact lay_dt (by omega) | exact lay_da (by omega) | exact lay_sh (by omega) | exact lay_se (by omega)) rfl (by omega) ?_
  refine v_S1 c_J6_bitCount_0f7a4 lk_X6_54 dX6_hiddenCells_4 (by decide) (Nat.le_of_ble_eq_true rfl) ?_
  exact v_retI dX6_hiddenCells_7 trivial ⟨rfl, rfl⟩

set_option maxRecDepth 4000 in
theorem c_X7_clearWork {G : GG} {dc : Nat} {I : Nat → Nat → Int32} {L : Nat → Nat → Int64} : Cn G yX7_clearWork cX7_clearWork 1 none 1 0 0 [.ref 8] (Mm dc I L) (Is none (Mm dc (fl2 (u2 I 8 6 (nI 0)) 10 6 (nI 0)) L)) := by
  refine Cn.of' (by decide) (Nat.le_of_ble_eq_true rfl) rfl ?_
  refine v_ald0 dX7_clearWork_0 ?_
  refine v_icN (n := 0) dX7_clearWork_1 (by decide) ?_
  refine v_putI dX7_clearWork_2 fl_X7_36 ft_7_6 (by first | rfl | exact lay_door (by omega) | exact lay_dt (by omega) | exact lay_da (by omega) | exact lay_sh (by omega) | exact lay_se (by omega)) rfl (by omega) ?_
  refine v_ald0 dX7_clearWork_5 ?_
  refine v_getP (q := 10) dX7_clearWork_6 fl_X7_15 (by first | rfl | exact lay_door (by omega) | exact lay_dt (by omega) | exact lay_da (by omega) | exact lay_sh (by omega) | exact lay_se (by omega)) rfl (by omega) rfl ?_
  refine v_icN (n := 0) dX7_clearWork_9 (by decide) ?_
  refine v_S2n (c_J7_fill_53178 rfl (by decide) (by omega)) lk_X7_30 dX7_clearWork_10 (by decide) (Nat.le_of_ble_eq_true rfl) ?_
  exact v_retV dX7_clearWork_13 trivial ⟨rfl, rfl⟩

def adI (I : Nat → Nat → Int32) (b : Nat) (w : Int32) : Nat → Nat → Int32 :=
  let J := u2 I 8 6 (I 8 6 ||| (nI 1 <<< (nI b &&& 31)))
  if w = 0 then J else u2 J 10 b (J 10 b + nI 1)

set_option maxRecDepth 4000 in
theorem c_X7_addDoor {G : GG} {dc : Nat} {I : Nat → Nat → Int32} {L : Nat → Nat → Int64} {b : Nat} {w : Int32} (hb : b < 6) : Cn G yX7_addDoor cX7_addDoor 3 none 0 0 0 [.ref 8, .int (nI b), .int w] (Mm dc I L) (Is none (Mm dc (adI I b w) L)) := by
  refine Cn.of' (by decide) (Nat.le_of_ble_eq_true rfl) rfl ?_
  refine v_ald0 dX7_addDoor_0 ?_
  refine v_dupR dX7_addDoor_1 ?_
  refine v_getI dX7_addDoor_2 fl_X7_36 (by first | rfl | exact lay_door (by omega) | exact lay_dt (by omega) | exact lay_da (by omega) | exact lay_sh (by omega) | exact lay_se (by omega)) rfl (by omega) ?_
  refine v_icN (n := 1) dX7_addDoor_5 (by decide) ?_
  refine v_ild1 dX7_addDoor_6 ?_
  refine v_ishl dX7_addDoor_7 ?_
  refine v_ior dX7_addDoor_8 ?_
  refine v_putI dX7_addDoor_9 fl_X7_36 ft_7_6 (by first | rfl | exact lay_door (by omega) | exact lay_dt (by omega) | exact lay_da (by omega) | exact lay_sh (by omega) | exact lay_se (by omega)) rfl (by omega) ?_
  refine v_ild2 dX7_addDoor_12 ?_
  refine v_if_eq (tgt := 26) dX7_addDoor_13 (by decide) (fun h13 => ?_) (fun h13 => ?_)
  · exact v_retV dX7_addDoor_26 trivial (by simp only [adI, if_pos h13]; exact ⟨rfl, rfl⟩)
  · refine v_ald0 dX7_addDoor_16 ?_
    refine v_getP (q := 10) dX7_addDoor_17 fl_X7_15 (by first | rfl | exact lay_door (by omega) | exact lay_dt (by omega) | exact lay_da (by omega) | exact lay_sh (by omega) | exact lay_se (by omega)) rfl (by omega) rfl ?_
    refine v_ild1 dX7_addDoor_20 ?_
    refine v_dup2 dX7_addDoor_21 ?_
    refine v_iald dX7_addDoor_22 (by first | rfl | exact lay_door (by omega) | exact lay_dt (by omega) | exact lay_da (by omega) | exact lay_sh (by omega) | exact lay_se (by omega)) (by omega) ⟨rfl, by omega, by decide⟩ ?_
    refine v_icN (n := 1) dX7_addDoor_23 (by decide) ?_
    refine v_iadd dX7_addDoor_24 ?_
    refine v_iast dX7_addDoor_25 (by first | rfl | exact lay_door (by omega) | exact lay_dt (by omega) | exact lay_da (by omega) | exact lay_sh (by omega) | exact lay_se (by omega)) (by omega) ⟨rfl, by omega, by decide⟩ ?_
    exact v_retV dX7_addDoor_26 trivial (by simp only [adI, if_neg h13]; exact ⟨rfl, rfl⟩)

def pBt (x : Int32) (j : Nat) : Bool := decide (sbit x (nI j))
def wOf (I : Nat → Nat → Int32) (x : Int32) : Int32 := sC (pBt x) (I 10) 6
def oC (p : Nat → Bool) (f : Nat → Int32) : Nat → Int32
  | 0 => nI 0
  | n + 1 => if p n then oC p f n ||| f n else oC p f n
theorem oC_t {p : Nat → Bool} {f : Nat → Int32} {n : Nat} (h : p n = true) : oC p f (n + 1) = oC p f n ||| f n := by simp only [oC, h, if_true]
theorem oC_f {p : Nat → Bool} {f : Nat → Int32} {n : Nat} (h : p n = false) : oC p f (n + 1) = oC p f n := by simp [oC, h]
def nOf (I : Nat → Nat → Int32) (x : Int32) : Int32 := oC (pBt x) (I 9) 6

set_option maxRecDepth 4000 in
theorem lp_wo {G : GG} {dc : Nat} {I : Nat → Nat → Int32} {L : Nat → Nat → Int64} {x : Int32} (k : Nat) : ∀ i, i + k = 6 → V G yX7_workOf cX7_workOf 4 (some .int) 0 0 0 4 [.ref 8, .int x, .int (sC (pBt x) (I 10) i), .int (nI i)] [] (Mm dc I L) (Is (some (.int (wOf I x))) (Mm dc I L)) := by
  induction k with
  | zero =>
    intro i hi
    refine v_ild3 dX7_workOf_4 ?_
    refine v_bipush (v := nI 6) dX7_workOf_5 (by decide) ?_
    refine v_icmp_ge (tgt := 33) dX7_workOf_7 (by decide) (fun h7 => ?_) (fun h7 => absurd (nI_le (by omega) (by omega)) h7)
    refine v_ild2 dX7_workOf_33 ?_
    exact v_retI dX7_workOf_34 trivial (by rw [show i = 6 by omega]; exact ⟨rfl, rfl⟩)
  | succ k ih =>
    intro i hi
    refine v_ild3 dX7_workOf_4 ?_
    refine v_bipush (v := nI 6) dX7_workOf_5 (by decide) ?_
    refine v_icmp_ge (tgt := 33) dX7_workOf_7 (by decide) (fun h7 => absurd h7 (nI_ge (by omega) (by omega))) (fun h7 => ?_)
    refine v_ild1 dX7_workOf_10 ?_
    refine v_ild3 dX7_workOf_11 ?_
    refine v_ishr dX7_workOf_12 ?_
    refine v_icN (n := 1) dX7_workOf_13 (by decide) ?_
    refine v_iand dX7_workOf_14 ?_
    refine v_if_eq (tgt := 27) dX7_workOf_15 (by decide) (fun h15 => ?_) (fun h15 => ?_)
    · refine v_inc3 dX7_workOf_27 rfl ?_
      refine v_goto (tgt := 4) dX7_workOf_30 (by decide) ?_
      rw [nI_1 i]
      have h9 := ih (i + 1) (by omega)
      rw [sC_f (p := pBt x) (decide_eq_false (fun z => z h15))] at h9
      exact h9
    · refine v_ild2 dX7_workOf_18 ?_
      refine v_ald0 dX7_workOf_19 ?_
      refine v_getP (q := 10) dX7_workOf_20 fl_X7_15 (by first | rfl | exact lay_door (by omega) | exact lay_dt (by omega) | exact lay_da (by omega) | exact lay_sh (by omega) | exact lay_se (by omega)) rfl (by omega) rfl ?_
      refine v_ild3 dX7_workOf_23 ?_
      refine v_iald dX7_workOf_24 (by first | rfl | exact lay_door (by omega) | exact lay_dt (by omega) | exact lay_da (by omega) | exact lay_sh (by omega) | exact lay_se (by omega)) (by omega) ⟨rfl, by omega, by decide⟩ ?_
      refine v_iadd dX7_workOf_25 ?_
      refine v_ist2 dX7_workOf_26 rfl ?_
      refine v_inc3 dX7_workOf_27 rfl ?_
      refine v_goto (tgt := 4) dX7_workOf_30 (by decide) ?_
      rw [nI_1 i]
      have h9 := ih (i + 1) (by omega)
      rw [sC_t (p := pBt x) (decide_eq_true h15)] at h9
      exact h9

set_option maxRecDepth 4000 in
theorem c_X7_workOf {G : GG} {dc : Nat} {I : Nat → Nat → Int32} {L : Nat → Nat → Int64} {x : Int32} : Cn G yX7_workOf cX7_workOf 4 (some .int) 0 0 0 [.ref 8, .int x] (Mm dc I L) (Is (some (.int (wOf I x))) (Mm dc I L)) := by
  refine Cn.of' (by decide) (Nat.le_of_ble_eq_true rfl) rfl ?_
  refine v_icN (n := 0) dX7_workOf_0 (by decide) ?_
  refine v_ist2 dX7_workOf_1 rfl ?_
  refine v_icN (n := 0) dX7_workOf_2 (by decide) ?_
  refine v_ist3 dX7_workOf_3 rfl ?_
  exact lp_wo 6 0 (by omega)

set_option maxRecDepth 4000 in
theorem lp_no {G : GG} {dc : Nat} {I : Nat → Nat → Int32} {L : Nat → Nat → Int64} {x : Int32} (k : Nat) : ∀ i, i + k = 6 → V G yX7_nearOnes cX7_nearOnes 4 (some .int) 0 0 0 4 [.ref 8, .int x, .int (oC (pBt x) (I 9) i), .int (nI i)] [] (Mm dc I L) (Is (some (.int (nOf I x))) (Mm dc I L)) := by
  induction k with
  | zero =>
    intro i hi
    refine v_ild3 dX7_nearOnes_4 ?_
    refine v_bipush (v := nI 6) dX7_nearOnes_5 (by decide) ?_
    refine v_icmp_ge (tgt := 33) dX7_nearOnes_7 (by decide) (fun h7 => ?_) (fun h7 => absurd (nI_le (by omega) (by omega)) h7)
    refine v_ild2 dX7_nearOnes_33 ?_
    exact v_retI dX7_nearOnes_34 trivial (by rw [show i = 6 by omega]; exact ⟨rfl, rfl⟩)
  | succ k ih =>
    intro i hi
    refine v_ild3 dX7_nearOnes_4 ?_
    refine v_bipush (v := nI 6) dX7_nearOnes_5 (by decide) ?_
    refine v_icmp_ge (tgt := 33) dX7_nearOnes_7 (by decide) (fun h7 => absurd h7 (nI_ge (by omega) (by omega))) (fun h7 => ?_)
    refine v_ild1 dX7_nearOnes_10 ?_
    refine v_ild3 dX7_nearOnes_11 ?_
    refine v_ishr dX7_nearOnes_12 ?_
    refine v_icN (n := 1) dX7_nearOnes_13 (by decide) ?_
    refine v_iand dX7_nearOnes_14 ?_
    refine v_if_eq (tgt := 27) dX7_nearOnes_15 (by decide) (fun h15 => ?_) (fun h15 => ?_)
    · refine v_inc3 dX7_nearOnes_27 rfl ?_
      refine v_goto (tgt := 4) dX7_nearOnes_30 (by decide) ?_
      rw [nI_1 i]
      have h9 := ih (i + 1) (by omega)
      rw [oC_f (p := pBt x) (decide_eq_false (fun z => z h15))] at h9
      exact h9
    · refine v_ild2 dX7_nearOnes_18 ?_
      refine v_ald0 dX7_nearOnes_19 ?_
      refine v_getP (q := 9) dX7_nearOnes_20 fl_X7_9 (by first | rfl | exact lay_door (by omega) | exact lay_dt (by omega) | exact lay_da (by omega) | exact lay_sh (by omega) | exact lay_se (by omega)) rfl (by omega) rfl ?_
      refine v_ild3 dX7_nearOnes_23 ?_
      refine v_iald dX7_nearOnes_24 (by first | rfl | exact lay_door (by omega) | exact lay_dt (by omega) | exact lay_da (by omega) | exact lay_sh (by omega) | exact lay_se (by omega)) (by omega) ⟨rfl, by omega, by decide⟩ ?_
      refine v_ior dX7_nearOnes_25 ?_
      refine v_ist2 dX7_nearOnes_26 rfl ?_
      refine v_inc3 dX7_nearOnes_27 rfl ?_
      refine v_goto (tgt := 4) dX7_nearOnes_30 (by decide) ?_
      rw [nI_1 i]
      have h9 := ih (i + 1) (by omega)
      rw [oC_t (p := pBt x) (decide_eq_true h15)] at h9
      exact h9

set_option maxRecDepth 4000 in
theorem c_X7_nearOnes {G : GG} {dc : Nat} {I : Nat → Nat → Int32} {L : Nat → Nat → Int64} {x : Int32} : Cn G yX7_nearOnes cX7_nearOnes 4 (some .int) 0 0 0 [.ref 8, .int x] (Mm dc I L) (Is (some (.int (nOf I x))) (Mm dc I L)) := by
  refine Cn.of' (by decide) (Nat.le_of_ble_eq_true rfl) rfl ?_
  refine v_icN (n := 0) dX7_nearOnes_0 (by decide) ?_
  refine v_ist2 dX7_nearOnes_1 rfl ?_
  refine v_icN (n := 0) dX7_nearOnes_2 (by decide) ?_
  refine v_ist3 dX7_nearOnes_3 rfl ?_
  exact lp_no 6 0 (by omega)

/-- what is reached of the blocks x by k rounds -/
def itg (I : Nat → Nat → Int32) (x : Int32) : Nat → Int32
  | 0 => x &&& -x
  | k + 1 => if itg I x k = x then itg I x k else itg I x k ||| (nOf I (itg I x k) &&& x)
theorem itg_y {I : Nat → Nat → Int32} {x : Int32} {k : Nat} (h : itg I x k = x) : ∀ n, k ≤ n → itg I x n = x
  | 0, hn => by rw [show (0 : Nat) = k by omega]; exact h
  | n + 1, hn => by
    by_cases hk : k = n + 1
    · rw [← hk]; exact h
    · have := itg_y h n (by omega)
      simp only [itg]
      rw [if_pos this]; exact this
abbrev tog (I : Nat → Nat → Int32) (x : Int32) : Prop := itg I x 6 = x

set_option maxRecDepth 4000 in
theorem lp_tog {G : GG} {dc : Nat} {I : Nat → Nat → Int32} {L : Nat → Nat → Int64} {x : Int32} (k : Nat) : ∀ i, i + k = 6 → V G yX7_isTogether cX7_isTogether 4 (some .boolean) 1 0 0 7 [.ref 8, .int x, .int (itg I x i), .int (nI i)] [] (Mm dc I L) (Is (some (.int (bI (tog I x)))) (Mm dc I L)) := by
  induction k with
  | zero =>
    intro i hi
    refine v_ild3 dX7_isTogether_7 ?_
    refine v_bipush (v := nI 6) dX7_isTogether_8 (by decide) ?_
    refine v_icmp_ge (tgt := 34) dX7_isTogether_10 (by decide) (fun h10 => ?_) (fun h10 => absurd (nI_le (by omega) (by omega)) h10)
    refine v_ild2 dX7_isTogether_34 ?_
    refine v_ild1 dX7_isTogether_35 ?_
    refine v_icmp_ne (tgt := 43) dX7_isTogether_36 (by decide) (fun h36 => ?_) (fun h36 => ?_)
    · refine v_icN (n := 0) dX7_isTogether_43 (by decide) ?_
      exact v_retI dX7_isTogether_44 (by first | exact Or.inl rfl | exact Or.inr rfl | exact bI_01) (by rw [show i = 6 by omega] at h36; rw [bI_f h36]; exact ⟨rfl, rfl⟩)
    · refine v_icN (n := 1) dX7_isTogether_39 (by decide) ?_
      refine v_goto (tgt := 44) dX7_isTogether_40 (by decide) ?_
      exact v_retI dX7_isTogether_44 (by first | exact Or.inl rfl | exact Or.inr rfl | exact bI_01) (by rw [show i = 6 by omega] at h36; rw [bI_t h36]; exact ⟨rfl, rfl⟩)
  | succ k ih =>
    intro i hi
    refine v_ild3 dX7_isTogether_7 ?_
    refine v_bipush (v := nI 6) dX7_isTogether_8 (by decide) ?_
    refine v_icmp_ge (tgt := 34) dX7_isTogether_10 (by decide) (fun h10 => absurd h10 (nI_ge (by omega) (by omega))) (fun h10 => ?_)
    refine v_ild2 dX7_isTogether_13 ?_
    refine v_ild1 dX7_isTogether_14 ?_
    refine v_icmp_eq (tgt := 34) dX7_isTogether_15 (by decide) (fun h15 => ?_) (fun h15 => ?_)
    · refine v_ild2 dX7_isTogether_34 ?_
      refine v_ild1 dX7_isTogether_35 ?_
      refine v_icmp_ne (tgt := 43) dX7_isTogether_36 (by decide) (fun h36 => ?_) (fun h36 => ?_)
      · refine v_icN (n := 0) dX7_isTogether_43 (by decide) ?_
        exact v_retI dX7_isTogether_44 (by first | exact Or.inl rfl | exact Or.inr rfl | exact bI_01) (absurd h15 h36)
      · refine v_icN (n := 1) dX7_isTogether_39 (by decide) ?_
        refine v_goto (tgt := 44) dX7_isTogether_40 (by decide) ?_
        exact v_retI dX7_isTogether_44 (by first | exact Or.inl rfl | exact Or.inr rfl | exact bI_01) (by rw [bI_t (itg_y h15 6 (by omega))]; exact ⟨rfl, rfl⟩)
    · refine v_ild2 dX7_isTogether_18 ?_
      refine v_ald0 dX7_isTogether_19 ?_
      refine v_ild2 dX7_isTogether_20 ?_
      refine v_V1 c_X7_nearOnes lk_X7_80 dX7_isTogether_21 (by decide) (Nat.le_of_ble_eq_true rfl) (by first | rfl | exact lay_door (by omega) | exact lay_dt (by omega) | exact lay_da (by omega) | exact lay_sh (by omega) | exact lay_se (by omega)) (show _ < 78 + 3 * _ by omega) ?_
      refine v_ild1 dX7_isTogether_24 ?_
      refine v_iand dX7_isTogether_25 ?_
      refine v_ior dX7_isTogether_26 ?_
      refine v_ist2 dX7_isTogether_27 rfl ?_
      refine v_inc3 dX7_isTogether_28 rfl ?_
      refine v_goto (tgt := 7) dX7_isTogether_31 (by decide) ?_
      rw [nI_1 i]
      have h9 := ih (i + 1) (by omega)
      rw [show itg I x (i + 1) = itg I x i ||| (nOf I (itg I x i) &&& x) by simp only [itg]; exact if_neg h15] at h9
      exact h9

set_option maxRecDepth 4000 in
theorem c_X7_isTogether {G : GG} {dc : Nat} {I : Nat → Nat → Int32} {L : Nat → Nat → Int64} {x : Int32} : Cn G yX7_isTogether cX7_isTogether 4 (some .boolean) 1 0 0 [.ref 8, .int x] (Mm dc I L) (Is (some (.int (bI (tog I x)))) (Mm dc I L)) := by
  refine Cn.of' (by decide) (Nat.le_of_ble_eq_true rfl) rfl ?_
  refine v_ild1 dX7_isTogether_0 ?_
  refine v_ild1 dX7_isTogether_1 ?_
  refine v_ineg dX7_isTogether_2 ?_
  refine v_iand dX7_isTogether_3 ?_
  refine v_ist2 dX7_isTogether_4 rfl ?_
  refine v_icN (n := 0) dX7_isTogether_5 (by decide) ?_
  refine v_ist3 dX7_isTogether_6 rfl ?_
  exact lp_tog 6 0 (by omega)

def pNT (I : Nat → Nat → Int32) (w : Nat) : Bool := decide (¬ tog I (I 12 w))

set_option maxRecDepth 4000 in
theorem lp_alt {G : GG} {dc : Nat} {I : Nat → Nat → Int32} {L : Nat → Nat → Int64} {n : Nat} (hn : n ≤ 6) (k : Nat) : ∀ i, i + k = n → V G yX7_allTogether cX7_allTogether 3 (some .boolean) 2 0 0 2 [.ref 8, .int (nI n), .int (nI i)] [] (Mm dc I L) (Is (some (.int (bI (fzf (pNT I) i k = n)))) (Mm dc I L)) := by
  induction k with
  | zero =>
    intro i hi
    refine v_ild2 dX7_allTogether_2 ?_
    refine v_ild1 dX7_allTogether_3 ?_
    refine v_icmp_ge (tgt := 28) dX7_allTogether_4 (by decide) (fun h4 => ?_) (fun h4 => absurd (nI_le (by omega) (by omega)) h4)
    refine v_icN (n := 1) dX7_allTogether_28 (by decide) ?_
    exact v_retI dX7_allTogether_29 (by first | exact Or.inl rfl | exact Or.inr rfl | exact bI_01) (by rw [bI_t (by rw [fzf]; omega)]; exact ⟨rfl, rfl⟩)
  | succ k ih =>
    intro i hi
    refine v_ild2 dX7_allTogether_2 ?_
    refine v_ild1 dX7_allTogether_3 ?_
    refine v_icmp_ge (tgt := 28) dX7_allTogether_4 (by decide) (fun h4 => absurd h4 (nI_ge (by omega) (by omega))) (fun h4 => ?_)
    refine v_ald0 dX7_allTogether_7 ?_
    refine v_ald0 dX7_allTogether_8 ?_
    refine v_getP (q := 12) dX7_allTogether_9 fl_X7_21 (by first | rfl | exact lay_door (by omega) | exact lay_dt (by omega) | exact lay_da (by omega) | exact lay_sh (by omega) | exact lay_se (by omega)) rfl (by omega) rfl ?_
    refine v_ild2 dX7_allTogether_12 ?_
    refine v_iald dX7_allTogether_13 (by first | rfl | exact lay_door (by omega) | exact lay_dt (by omega) | exact lay_da (by omega) | exact lay_sh (by omega) | exact lay_se (by omega)) (by omega) ⟨rfl, by omega, by decide⟩ ?_
    refine v_V1 c_X7_isTogether lk_X7_77 dX7_allTogether_14 (by decide) (Nat.le_of_ble_eq_true rfl) (by first | rfl | exact lay_door (by omega) | exact lay_dt (by omega) | exact lay_da (by omega) | exact lay_sh (by omega) | exact lay_se (by omega)) (show _ < 78 + 3 * _ by omega) ?_
    refine v_ifne_b (tgt := 22) dX7_allTogether_17 (by decide) (fun h17 => ?_) (fun h17 => ?_)
    · refine v_inc2 dX7_allTogether_22 rfl ?_
      refine v_goto (tgt := 2) dX7_allTogether_25 (by decide) ?_
      rw [nI_1 i, fzf_f (p := pNT I) (decide_eq_false (fun z => z h17))]
      exact ih (i + 1) (by omega)
    · refine v_icN (n := 0) dX7_allTogether_20 (by decide) ?_
      exact v_retI dX7_allTogether_21 (by first | exact Or.inl rfl | exact Or.inr rfl | exact bI_01) (by rw [fzf_t (p := pNT I) (decide_eq_true h17), bI_f (by omega)]; exact ⟨rfl, rfl⟩)

set_option maxRecDepth 4000 in
theorem c_X7_allTogether {G : GG} {dc : Nat} {I : Nat → Nat → Int32} {L : Nat → Nat → Int64} {n : Nat} (hn : n ≤ 6) : Cn G yX7_allTogether cX7_allTogether 3 (some .boolean) 2 0 0 [.ref 8, .int (nI n)] (Mm dc I L) (Is (some (.int (bI (fzf (pNT I) 0 n = n)))) (Mm dc I L)) := by
  refine Cn.of' (by decide) (Nat.le_of_ble_eq_true rfl) rfl ?_
  refine v_icN (n := 0) dX7_allTogether_0 (by decide) ?_
  refine v_ist2 dX7_allTogether_1 rfl ?_
  exact lp_alt hn n 0 (by omega)

/-- the greatest work of the first n walks -/
def mxW (I : Nat → Nat → Int32) : Nat → Int32
  | 0 => nI 0
  | w + 1 => if mxW I w < wOf I (I 12 w) then wOf I (I 12 w) else mxW I w
abbrev btr (I : Nat → Nat → Int32) (n : Nat) : Prop := nI n < I 8 8 ∨ (nI n = I 8 8 ∧ ¬ I 8 9 ≤ mxW I n)
abbrev jdC (I : Nat → Nat → Int32) (n : Nat) : Prop := ¬ I 8 7 < mxW I n ∧ btr I n ∧ fzf (pNT I) 0 n = n
def jdI (I : Nat → Nat → Int32) (n : Nat) : Nat → Nat → Int32 := if jdC I n then cp2 (u2 (u2 I 8 8 (nI n)) 8 9 (mxW I n)) 13 14 0 0 6 else I

set_option maxRecDepth 4000 in
theorem lp_jd {G : GG} {dc : Nat} {I : Nat → Nat → Int32} {L : Nat → Nat → Int64} {n : Nat} (hn : n ≤ 6) (k : Nat) : ∀ i, i + k = n → V G yX7_judge cX7_judge 4 none 3 0 0 4 [.ref 8, .int (nI n), .int (mxW I i), .int (nI i)] [] (Mm dc I L) (Is none (Mm dc (jdI I n) L)) := by
  induction k with
  | zero =>
    intro i hi
    refine v_ild3 dX7_judge_4 ?_
    refine v_ild1 dX7_judge_5 ?_
    refine v_icmp_ge (tgt := 30) dX7_judge_6 (by decide) (fun h6 => ?_) (fun h6 => absurd (nI_le (by omega) (by omega)) h6)
    obtain rfl : i = n := by omega
    refine v_ild1 dX7_judge_30 ?_
    refine v_ald0 dX7_judge_31 ?_
    refine v_getI dX7_judge_32 fl_X7_43 (by first | rfl | exact lay_door (by omega) | exact lay_dt (by omega) | exact lay_da (by omega) | exact lay_sh (by omega) | exact lay_se (by omega)) rfl (by omega) ?_
    refine v_icmp_lt (tgt := 54) dX7_judge_35 (by decide) (fun h35 => ?_) (fun h35 => ?_)
    · refine v_icN (n := 1) dX7_judge_54 (by decide) ?_
      refine v_goto (tgt := 59) dX7_judge_55 (by decide) ?_
      refine v_ist3 dX7_judge_59 rfl ?_
      refine v_ild2 dX7_judge_60 ?_
      refine v_ald0 dX7_judge_61 ?_
      refine v_getI dX7_judge_62 fl_X7_40 (by first | rfl | exact lay_door (by omega) | exact lay_dt (by omega) | exact lay_da (by omega) | exact lay_sh (by omega) | exact lay_se (by omega)) rfl (by omega) ?_
      refine v_icmp_gt (tgt := 80) dX7_judge_65 (by decide) (fun h65 => ?_) (fun h65 => ?_)
      · exact v_retV dX7_judge_80 trivial (by rw [jdI, if_neg (fun z => z.1 h65)]; exact ⟨rfl, rfl⟩)
      · refine v_ild3 dX7_judge_68 ?_
        refine v_if_eq (tgt := 80) dX7_judge_69 (by decide) (fun h69 => ?_) (fun h69 => ?_)
        · exact v_retV dX7_judge_80 trivial (absurd h69 (by decide))
        · refine v_ald0 dX7_judge_72 ?_
          refine v_ild1 dX7_judge_73 ?_
          refine v_V1 (c_X7_allTogether hn) lk_X7_73 dX7_judge_74 (by decide) (Nat.le_of_ble_eq_true rfl) (by first | rfl | exact lay_door (by omega) | exact lay_dt (by omega) | exact lay_da (by omega) | exact lay_sh (by omega) | exact lay_se (by omega)) (show _ < 78 + 3 * _ by omega) ?_
          refine v_ifne_b (tgt := 81) dX7_judge_77 (by decide) (fun h77 => ?_) (fun h77 => ?_)
          · refine v_ald0 dX7_judge_81 ?_
            refine v_ild1 dX7_judge_82 ?_
            refine v_putI dX7_judge_83 fl_X7_43 ft_7_8 (by first | rfl | exact lay_door (by omega) | exact lay_dt (by omega) | exact lay_da (by omega) | exact lay_sh (by omega) | exact lay_se (by omega)) rfl (by omega) ?_
            refine v_ald0 dX7_judge_86 ?_
            refine v_ild2 dX7_judge_87 ?_
            refine v_putI dX7_judge_88 fl_X7_46 ft_7_9 (by first | rfl | exact lay_door (by omega) | exact lay_dt (by omega) | exact lay_da (by omega) | exact lay_sh (by omega) | exact lay_se (by omega)) rfl (by omega) ?_
            refine v_ald0 dX7_judge_91 ?_
            refine v_getP (q := 13) dX7_judge_92 fl_X7_24 (by first | rfl | exact lay_door (by omega) | exact lay_dt (by omega) | exact lay_da (by omega) | exact lay_sh (by omega) | exact lay_se (by omega)) rfl (by omega) rfl ?_
            refine v_icN (n := 0) dX7_judge_95 (by decide) ?_
            refine v_ald0 dX7_judge_96 ?_
            refine v_getP (q := 14) dX7_judge_97 fl_X7_27 (by first | rfl | exact lay_door (by omega) | exact lay_dt (by omega) | exact lay_da (by omega) | exact lay_sh (by omega) | exact lay_se (by omega)) rfl (by omega) rfl ?_
            refine v_icN (n := 0) dX7_judge_100 (by decide) ?_
            refine v_bipush (v := nI 6) dX7_judge_101 (by decide) ?_
            refine v_copyI dX7_judge_103 lj_X7_53 (by decide) (Nat.le_of_ble_eq_true rfl) rfl rfl (by omega) (by omega) (i := 0) (j := 0) (k0 := 6) rfl rfl rfl (by decide) (by decide) (by decide) (by decide) ?_
            exact v_retV dX7_judge_106 trivial (by rw [jdI, if_pos ⟨h65, Or.inl h35, h77⟩]; exact ⟨rfl, rfl⟩)
          · exact v_retV dX7_judge_80 trivial (by rw [jdI, if_neg (fun z => h77 z.2.2)]; exact ⟨rfl, rfl⟩)
    · refine v_ild1 dX7_judge_38 ?_
      refine v_ald0 dX7_judge_39 ?_
      refine v_getI dX7_judge_40 fl_X7_43 (by first | rfl | exact lay_door (by omega) | exact lay_dt (by omega) | exact lay_da (by omega) | exact lay_sh (by omega) | exact lay_se (by omega)) rfl (by omega) ?_
      refine v_icmp_ne (tgt := 58) dX7_judge_43 (by decide) (fun h43 => ?_) (fun h43 => ?_)
      · refine v_icN (n := 0) dX7_judge_58 (by decide) ?_
        refine v_ist3 dX7_judge_59 rfl ?_
        refine v_ild2 dX7_judge_60 ?_
        refine v_ald0 dX7_judge_61 ?_
        refine v_getI dX7_judge_62 fl_X7_40 (by first | rfl | exact lay_door (by omega) | exact lay_dt (by omega) | exact lay_da (by omega) | exact lay_sh (by omega) | exact lay_se (by omega)) rfl (by omega) ?_
        refine v_icmp_gt (tgt := 80) dX7_judge_65 (by decide) (fun h65 => ?_) (fun h65 => ?_)
        · exact v_retV dX7_judge_80 trivial (by rw [jdI, if_neg (fun z => z.1 h65)]; exact ⟨rfl, rfl⟩)
        · refine v_ild3 dX7_judge_68 ?_
          refine v_if_eq (tgt := 80) dX7_judge_69 (by decide) (fun h69 => ?_) (fun h69 => ?_)
          · exact v_retV dX7_judge_80 trivial (by rw [jdI, if_neg (fun z => z.2.1.elim h35 (fun y => h43 y.1))]; exact ⟨rfl, rfl⟩)
          · refine v_ald0 dX7_judge_72 ?_
            refine v_ild1 dX7_judge_73 ?_
            refine v_V1 (c_X7_allTogether hn) lk_X7_73 dX7_judge_74 (by decide) (Nat.le_of_ble_eq_true rfl) (by first | rfl | exact lay_door (by omega) | exact lay_dt (by omega) | exact lay_da (by omega) | exact lay_sh (by omega) | exact lay_se (by omega)) (show _ < 78 + 3 * _ by omega) ?_
            refine v_ifne_b (tgt := 81) dX7_judge_77 (by decide) (fun h77 => ?_) (fun h77 => ?_)
            · refine v_ald0 dX7_judge_81 ?_
              refine v_ild1 dX7_judge_82 ?_
              refine v_putI dX7_judge_83 fl_X7_43 ft_7_8 (by first | rfl | exact lay_door (by omega) | exact lay_dt (by omega) | exact lay_da (by omega) | exact lay_sh (by omega) | exact lay_se (by omega)) rfl (by omega) ?_
              refine v_ald0 dX7_judge_86 ?_
              refine v_ild2 dX7_judge_87 ?_
              refine v_putI dX7_judge_88 fl_X7_46 ft_7_9 (by first | rfl | exact lay_door (by omega) | exact lay_dt (by omega) | exact lay_da (by omega) | exact lay_sh (by omega) | exact lay_se (by omega)) rfl (by omega) ?_
              refine v_ald0 dX7_judge_91 ?_
              refine v_getP (q := 13) dX7_judge_92 fl_X7_24 (by first | rfl | exact lay_door (by omega) | exact lay_dt (by omega) | exact lay_da (by omega) | exact lay_sh (by omega) | exact lay_se (by omega)) rfl (by omega) rfl ?_
              refine v_icN (n := 0) dX7_judge_95 (by decide) ?_
              refine v_ald0 dX7_judge_96 ?_
              refine v_getP (q := 14) dX7_judge_97 fl_X7_27 (by first | rfl | exact lay_door (by omega) | exact lay_dt (by omega) | exact lay_da (by omega) | exact lay_sh (by omega) | exact lay_se (by omega)) rfl (by omega) rfl ?_
              refine v_icN (n := 0) dX7_judge_100 (by decide) ?_
              refine v_bipush (v := nI 6) dX7_judge_101 (by decide) ?_
              refine v_copyI dX7_judge_103 lj_X7_53 (by decide) (Nat.le_of_ble_eq_true rfl) rfl rfl (by omega) (by omega) (i := 0) (j := 0) (k0 := 6) rfl rfl rfl (by decide) (by decide) (by decide) (by decide) ?_
              exact v_retV dX7_judge_106 trivial (absurd rfl h69)
            · exact v_retV dX7_judge_80 trivial (absurd rfl h69)
      · refine v_ild2 dX7_judge_46 ?_
        refine v_ald0 dX7_judge_47 ?_
        refine v_getI dX7_judge_48 fl_X7_46 (by first | rfl | exact lay_door (by omega) | exact lay_dt (by omega) | exact lay_da (by omega) | exact lay_sh (by omega) | exact lay_se (by omega)) rfl (by omega) ?_
        refine v_icmp_ge (tgt := 58) dX7_judge_51 (by decide) (fun h51 => ?_) (fun h51 => ?_)
        · refine v_icN (n := 0) dX7_judge_58 (by decide) ?_
          refine v_ist3 dX7_judge_59 rfl ?_
          refine v_ild2 dX7_judge_60 ?_
          refine v_ald0 dX7_judge_61 ?_
          refine v_getI dX7_judge_62 fl_X7_40 (by first | rfl | exact lay_door (by omega) | exact lay_dt (by omega) | exact lay_da (by omega) | exact lay_sh (by omega) | exact lay_se (by omega)) rfl (by omega) ?_
          refine v_icmp_gt (tgt := 80) dX7_judge_65 (by decide) (fun h65 => ?_) (fun h65 => ?_)
          · exact v_retV dX7_judge_80 trivial (by rw [jdI, if_neg (fun z => z.1 h65)]; exact ⟨rfl, rfl⟩)
          · refine v_ild3 dX7_judge_68 ?_
            refine v_if_eq (tgt := 80) dX7_judge_69 (by decide) (fun h69 => ?_) (fun h69 => ?_)
            · exact v_retV dX7_judge_80 trivial (by rw [jdI, if_neg (fun z => z.2.1.elim h35 (fun y => y.2 h51))]; exact ⟨rfl, rfl⟩)
            · refine v_ald0 dX7_judge_72 ?_
              refine v_ild1 dX7_judge_73 ?_
              refine v_V1 (c_X7_allTogether hn) lk_X7_73 dX7_judge_74 (by decide) (Nat.le_of_ble_eq_true rfl) (by first | rfl | exact lay_door (by omega) | exact lay_dt (by omega) | exact lay_da (by omega) | exact lay_sh (by omega) | exact lay_se (by omega)) (show _ < 78 + 3 * _ by omega) ?_
              refine v_ifne_b (tgt := 81) dX7_judge_77 (by decide) (fun h77 => ?_) (fun h77 => ?_)
              · refine v_ald0 dX7_judge_81 ?_
                refine v_ild1 dX7_judge_82 ?_
                refine v_putI dX7_judge_83 fl_X7_43 ft_7_8 (by first | rfl | exact lay_door (by omega) | exact lay_dt (by omega) | exact lay_da (by omega) | exact lay_sh (by omega) | exact lay_se (by omega)) rfl (by omega) ?_
                refine v_ald0 dX7_judge_86 ?_
                refine v_ild2 dX7_judge_87 ?_
                refine v_putI dX7_judge_88 fl_X7_46 ft_7_9 (by first | rfl | exact lay_door (by omega) | exact lay_dt (by omega) | exact lay_da (by omega) | exact lay_sh (by omega) | exact lay_se (by omega)) rfl (by omega) ?_
                refine v_ald0 dX7_judge_91 ?_
                refine v_getP (q := 13) dX7_judge_92 fl_X7_24 (by first | rfl | exact lay_door (by omega) | exact lay_dt (by omega) | exact lay_da (by omega) | exact lay_sh (by omega) | exact lay_se (by omega)) rfl (by omega) rfl ?_
                refine v_icN (n := 0) dX7_judge_95 (by decide) ?_
                refine v_ald0 dX7_judge_96 ?_
                refine v_getP (q := 14) dX7_judge_97 fl_X7_27 (by first | rfl | exact lay_door (by omega) | exact lay_dt (by omega) | exact lay_da (by omega) | exact lay_sh (by omega) | exact lay_se (by omega)) rfl (by omega) rfl ?_
                refine v_icN (n := 0) dX7_judge_100 (by decide) ?_
                refine v_bipush (v := nI 6) dX7_judge_101 (by decide) ?_
                refine v_copyI dX7_judge_103 lj_X7_53 (by decide) (Nat.le_of_ble_eq_true rfl) rfl rfl (by omega) (by omega) (i := 0) (j := 0) (k0 := 6) rfl rfl rfl (by decide) (by decide) (by decide) (by decide) ?_
                exact v_retV dX7_judge_106 trivial (absurd rfl h69)
              · exact v_retV dX7_judge_80 trivial (absurd rfl h69)
        · refine v_icN (n := 1) dX7_judge_54 (by decide) ?_
          refine v_goto (tgt := 59) dX7_judge_55 (by decide) ?_
          refine v_ist3 dX7_judge_59 rfl ?_
          refine v_ild2 dX7_judge_60 ?_
          refine v_ald0 dX7_judge_61 ?_
          refine v_getI dX7_judge_62 fl_X7_40 (by first | rfl | exact lay_door (by omega) | exact lay_dt (by omega) | exact lay_da (by omega) | exact lay_sh (by omega) | exact lay_se (by omega)) rfl (by omega) ?_
          refine v_icmp_gt (tgt := 80) dX7_judge_65 (by decide) (fun h65 => ?_) (fun h65 => ?_)
          · exact v_retV dX7_judge_80 trivial (by rw [jdI, if_neg (fun z => z.1 h65)]; exact ⟨rfl, rfl⟩)
          · refine v_ild3 dX7_judge_68 ?_
            refine v_if_eq (tgt := 80) dX7_judge_69 (by decide) (fun h69 => ?_) (fun h69 => ?_)
            · exact v_retV dX7_judge_80 trivial (absurd h69 (by decide))
            · refine v_ald0 dX7_judge_72 ?_
              refine v_ild1 dX7_judge_73 ?_
              refine v_V1 (c_X7_allTogether hn) lk_X7_73 dX7_judge_74 (by decide) (Nat.le_of_ble_eq_true rfl) (by first | rfl | exact lay_door (by omega) | exact lay_dt (by omega) | exact lay_da (by omega) | exact lay_sh (by omega) | exact lay_se (by omega)) (show _ < 78 + 3 * _ by omega) ?_
              refine v_ifne_b (tgt := 81) dX7_judge_77 (by decide) (fun h77 => ?_) (fun h77 => ?_)
              · refine v_ald0 dX7_judge_81 ?_
                refine v_ild1 dX7_judge_82 ?_
                refine v_putI dX7_judge_83 fl_X7_43 ft_7_8 (by first | rfl | exact lay_door (by omega) | exact lay_dt (by omega) | exact lay_da (by omega) | exact lay_sh (by omega) | exact lay_se (by omega)) rfl (by omega) ?_
                refine v_ald0 dX7_judge_86 ?_
                refine v_ild2 dX7_judge_87 ?_
                refine v_putI dX7_judge_88 fl_X7_46 ft_7_9 (by first | rfl | exact lay_door (by omega) | exact lay_dt (by omega) | exact lay_da (by omega) | exact lay_sh (by omega) | exact lay_se (by omega)) rfl (by omega) ?_
                refine v_ald0 dX7_judge_91 ?_
                refine v_getP (q := 13) dX7_judge_92 fl_X7_24 (by first | rfl | exact lay_door (by omega) | exact lay_dt (by omega) | exact lay_da (by omega) | exact lay_sh (by omega) | exact lay_se (by omega)) rfl (by omega) rfl ?_
                refine v_icN (n := 0) dX7_judge_95 (by decide) ?_
                refine v_ald0 dX7_judge_96 ?_
                refine v_getP (q := 14) dX7_judge_97 fl_X7_27 (by first | rfl | exact lay_door (by omega) | exact lay_dt (by omega) | exact lay_da (by omega) | exact lay_sh (by omega) | exact lay_se (by omega)) rfl (by omega) rfl ?_
                refine v_icN (n := 0) dX7_judge_100 (by decide) ?_
                refine v_bipush (v := nI 6) dX7_judge_101 (by decide) ?_
                refine v_copyI dX7_judge_103 lj_X7_53 (by decide) (Nat.le_of_ble_eq_true rfl) rfl rfl (by omega) (by omega) (i := 0) (j := 0) (k0 := 6) rfl rfl rfl (by decide) (by decide) (by decide) (by decide) ?_
                exact v_retV dX7_judge_106 trivial (by rw [jdI, if_pos ⟨h65, Or.inr ⟨h43, h51⟩, h77⟩]; exact ⟨rfl, rfl⟩)
              · exact v_retV dX7_judge_80 trivial (by rw [jdI, if_neg (fun z => h77 z.2.2)]; exact ⟨rfl, rfl⟩)
  | succ k ih =>
    intro i hi
    refine v_ild3 dX7_judge_4 ?_
    refine v_ild1 dX7_judge_5 ?_
    refine v_icmp_ge (tgt := 30) dX7_judge_6 (by decide) (fun h6 => absurd h6 (nI_ge (by omega) (by omega))) (fun h6 => ?_)
    refine v_ild2 dX7_judge_9 ?_
    refine v_ald0 dX7_judge_10 ?_
    refine v_ald0 dX7_judge_11 ?_
    refine v_getP (q := 12) dX7_judge_12 fl_X7_21 (by first | rfl | exact lay_door (by omega) | exact lay_dt (by omega) | exact lay_da (by omega) | exact lay_sh (by omega) | exact lay_se (by omega)) rfl (by omega) rfl ?_
    refine v_ild3 dX7_judge_15 ?_
    refine v_iald dX7_judge_16 (by first | rfl | exact lay_door (by omega) | exact lay_dt (by omega) | exact lay_da (by omega) | exact lay_sh (by omega) | exact lay_se (by omega)) (by omega) ⟨rfl, by omega, by decide⟩ ?_
    refine v_V1 c_X7_workOf lk_X7_69 dX7_judge_17 (by decide) (Nat.le_of_ble_eq_true rfl) (by first | rfl | exact lay_door (by omega) | exact lay_dt (by omega) | exact lay_da (by omega) | exact lay_sh (by omega) | exact lay_se (by omega)) (show _ < 78 + 3 * _ by omega) ?_
    refine v_mmax dX7_judge_20 lj_X7_63 (by decide) (Nat.le_of_ble_eq_true rfl) ?_
    refine v_ist2 dX7_judge_23 rfl ?_
    refine v_inc3 dX7_judge_24 rfl ?_
    refine v_goto (tgt := 4) dX7_judge_27 (by decide) ?_
    rw [nI_1 i]
    exact ih (i + 1) (by omega)

set_option maxRecDepth 4000 in
theorem c_X7_judge {G : GG} {dc : Nat} {I : Nat → Nat → Int32} {L : Nat → Nat → Int64} {n : Nat} (hn : n ≤ 6) : Cn G yX7_judge cX7_judge 4 none 3 0 0 [.ref 8, .int (nI n)] (Mm dc I L) (Is none (Mm dc (jdI I n) L)) := by
  refine Cn.of' (by decide) (Nat.le_of_ble_eq_true rfl) rfl ?_
  refine v_icN (n := 0) dX7_judge_0 (by decide) ?_
  refine v_ist2 dX7_judge_1 rfl ?_
  refine v_icN (n := 0) dX7_judge_2 (by decide) ?_
  refine v_ist3 dX7_judge_3 rfl ?_
  exact lp_jd hn n 0 (by omega)
