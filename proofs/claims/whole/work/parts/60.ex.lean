/-! ===== the component: could ===== -/
def wrm (W : Nat → Int32) (T : Nat → Nat) (s : Nat) : Nat → Nat → Nat → Nat
  | 0, _, r => r
  | f + 1, b, r => if b = s then r else wrm W T s f (tn (W b)) (if b < 6 then min r (T (clN (tn (W b)) b)) else r)
def pOK (W : Nat → Int32) (T : Nat → Nat) (s D : Nat) : Nat → Nat → Prop
  | 0, _ => True
  | f + 1, b => b = s ∨ ((b < 6 → D ≤ T (clN (tn (W b)) b)) ∧ pOK W T s D f (tn (W b)))
theorem wrm_le {W : Nat → Int32} {T : Nat → Nat} {s : Nat} : ∀ f b r, wrm W T s f b r ≤ r
  | 0, _, _ => Nat.le_refl _
  | f + 1, b, r => by
    rw [wrm]
    split
    · exact Nat.le_refl _
    · refine Nat.le_trans (wrm_le f _ _) ?_
      split
      · exact Nat.min_le_left _ _
      · exact Nat.le_refl _
theorem wrm_ok {W : Nat → Int32} {T : Nat → Nat} {s D : Nat} : ∀ f b r, D ≤ wrm W T s f b r → pOK W T s D f b
  | 0, _, _, _ => trivial
  | f + 1, b, r, h => by
    rw [wrm] at h
    by_cases e : b = s
    · exact Or.inl e
    · rw [if_neg e] at h
      refine Or.inr ⟨fun hb => ?_, wrm_ok f _ _ h⟩
      have h1 := wrm_le (W := W) (T := T) (s := s) f (tn (W b)) (if b < 6 then min r (T (clN (tn (W b)) b)) else r)
      rw [if_pos hb] at h h1
      have := Nat.min_le_right r (T (clN (tn (W b)) b))
      omega
theorem wrm_1 {W Q : Nat → Int32} {R : Nat → Nat → Prop} {T : Nat → Nat} {s e : Nat} {q : Nat → Nat} (hB : BF W Q R s e q) (hR : ∀ a b, R a b → adj a b ∧ (a < 6 ∨ 1 ≤ T (clN a b))) : ∀ f k r, k < e → 1 ≤ r → 1 ≤ wrm W T s f (q k) r
  | 0, _, _, _, h => h
  | f + 1, k, r, hk, h => by
    rw [wrm]
    by_cases e : q k = s
    · rw [if_pos e]; exact h
    · rw [if_neg e]
      have hk0 : k ≠ 0 := fun z => e (by rw [z, hB.q0])
      obtain ⟨k', hk', hW, hst⟩ := hB.pr k hk (by omega)
      have hq := (hB.ql k' (by omega)).1
      rw [show tn (W (q k)) = q k' from by rw [hW]; exact tn_nI (by omega)]
      refine wrm_1 hB hR f k' _ (by omega) ?_
      split
      · have h2 := hR _ _ hst
        have h3 : 1 ≤ T (clN (q k') (q k)) := h2.2.resolve_left (by have := h2.1; omega)
        omega
      · exact h
theorem nI_an {a b : Nat} (h : b ≤ a) : nI a + -(nI b) = nI (a - b) := by
  rw [← Int32.sub_eq_add_neg]
  exact pk_sub h

set_option maxRecDepth 4000 in
theorem lp_wr {G : GG} {dc : Nat} {I : Nat → Nat → Int32} {L : Nat → Nat → Int64} {T : Nat → Nat} {s e B : Nat} {q : Nat → Nat} {xg : Int32} (hB : BF (I 21) (I 22) (stC I) s e q) (hT : ∀ x, x < 24 → I 20 x = nI (T x)) (hTB : ∀ x, x < 24 → T x ≤ B) (hB2 : B < 2 ^ 30) (f : Nat) : ∀ t, t + f = 10 → ∀ k r, k < e → k < f → r < 2 ^ 31 → V G yX5_wayRoom cX5_wayRoom 6 (some .int) 2 0 0 9 [.ref 19, .int (nI s), .int xg, .int (nI r), .int (nI (q k)), .int (nI t)] [] (Mm dc I L) (Is (some (.int (nI (wrm (I 21) T s f (q k) r)))) (Mm dc I L)) := by
  induction f with
  | zero => intro t ht k r hk hk2; omega
  | succ f ih =>
    intro t ht k r hk hk2 hr
    have hqk := (hB.ql k hk).1
    have hs10 : s < 10 := by have := (hB.ql 0 hB.e1).1; rw [hB.q0] at this; exact this
    refine v_ild5 dX5_wayRoom_9 ?_
    refine v_bipush (v := nI 10) dX5_wayRoom_11 (by decide) ?_
    refine v_icmp_ge (tgt := 66) dX5_wayRoom_13 (by decide) (fun h13 => absurd h13 (nI_ge (by omega) (by decide))) (fun h13 => ?_)
    refine v_ild4 dX5_wayRoom_16 ?_
    refine v_ild1 dX5_wayRoom_18 ?_
    refine v_icmp_eq (tgt := 66) dX5_wayRoom_19 (by decide) (fun h19 => ?_) (fun h19 => ?_)
    · refine v_ild3 dX5_wayRoom_66 ?_
      exact v_retI dX5_wayRoom_67 trivial (by rw [wrm, if_pos ((nI_eq (by omega) (by omega)).mp h19)]; exact ⟨rfl, rfl⟩)
    · have hk0 : k ≠ 0 := fun z => h19 (by rw [z, hB.q0])
      obtain ⟨k', hk', hW, hR⟩ := hB.pr k hk (by omega)
      have hqk2 := (hB.ql k' (by omega)).1
      have hl := clN_lt hR.1
      have hqne : ¬ q k = s := fun z => h19 (by rw [z])
      have htn : tn (I 21 (q k)) = q k' := by rw [hW]; exact tn_nI (by omega)
      refine v_ild4 dX5_wayRoom_22 ?_
      refine v_bipush (v := nI 6) dX5_wayRoom_24 (by decide) ?_
      refine v_icmp_ge (tgt := 51) dX5_wayRoom_26 (by decide) (fun h26 => ?_) (fun h26 => ?_)
      · refine v_ald0 dX5_wayRoom_51 ?_
        refine v_getP (q := 21) dX5_wayRoom_52 fl_X5_17 (by first | rfl | exact lay_door (by omega) | exact lay_dt (by omega) | exact lay_da (by omega) | exact lay_sh (by omega) | exact lay_se (by omega)) rfl (by omega) rfl ?_
        refine v_ild4 dX5_wayRoom_55 ?_
        refine v_iald dX5_wayRoom_57 (by first | rfl | exact lay_door (by omega) | exact lay_dt (by omega) | exact lay_da (by omega) | exact lay_sh (by omega) | exact lay_se (by omega)) (by omega) ⟨rfl, hqk, by decide⟩ ?_
        refine v_e0 (congrArg Value.int hW) ?_
        refine v_ist4 dX5_wayRoom_58 rfl ?_
        refine v_inc5 dX5_wayRoom_60 rfl ?_
        refine v_goto (tgt := 9) dX5_wayRoom_63 (by decide) ?_
        rw [nI_1 t]
        rw [wrm, if_neg hqne, htn]
        rw [if_neg (show ¬ q k < 6 from fun z => nI_ge z (by decide) h26)]
        exact ih (t + 1) (by omega) k' r (by omega) (by omega) hr
      · refine v_ild3 dX5_wayRoom_29 ?_
        refine v_ald0 dX5_wayRoom_30 ?_
        refine v_getP (q := 20) dX5_wayRoom_31 fl_X5_11 (by first | rfl | exact lay_door (by omega) | exact lay_dt (by omega) | exact lay_da (by omega) | exact lay_sh (by omega) | exact lay_se (by omega)) rfl (by omega) rfl ?_
        refine v_ald0 dX5_wayRoom_34 ?_
        refine v_getP (q := 21) dX5_wayRoom_35 fl_X5_17 (by first | rfl | exact lay_door (by omega) | exact lay_dt (by omega) | exact lay_da (by omega) | exact lay_sh (by omega) | exact lay_se (by omega)) rfl (by omega) rfl ?_
        refine v_ild4 dX5_wayRoom_38 ?_
        refine v_iald dX5_wayRoom_40 (by first | rfl | exact lay_door (by omega) | exact lay_dt (by omega) | exact lay_da (by omega) | exact lay_sh (by omega) | exact lay_se (by omega)) (by omega) ⟨rfl, hqk, by decide⟩ ?_
        refine v_e0 (congrArg Value.int hW) ?_
        refine v_ild4 dX5_wayRoom_41 ?_
        refine v_S2 (c_X5_cellOf rfl rfl hR.1) lk_X5_60 dX5_wayRoom_43 (by decide) (Nat.le_of_ble_eq_true rfl) ?_
        refine v_iald dX5_wayRoom_46 (by first | rfl | exact lay_door (by omega) | exact lay_dt (by omega) | exact lay_da (by omega) | exact lay_sh (by omega) | exact lay_se (by omega)) (by omega) ⟨rfl, hl, by decide⟩ ?_
        refine v_e0 (congrArg Value.int (hT _ hl)) ?_
        refine v_mmin dX5_wayRoom_47 lj_X5_42 (by decide) (Nat.le_of_ble_eq_true rfl) ?_
        have hTl := hTB _ hl
        refine v_e0 (congrArg Value.int (nI_min (by omega) (by omega))) ?_
        refine v_ist3 dX5_wayRoom_50 rfl ?_
        refine v_ald0 dX5_wayRoom_51 ?_
        refine v_getP (q := 21) dX5_wayRoom_52 fl_X5_17 (by first | rfl | exact lay_door (by omega) | exact lay_dt (by omega) | exact lay_da (by omega) | exact lay_sh (by omega) | exact lay_se (by omega)) rfl (by omega) rfl ?_
        refine v_ild4 dX5_wayRoom_55 ?_
        refine v_iald dX5_wayRoom_57 (by first | rfl | exact lay_door (by omega) | exact lay_dt (by omega) | exact lay_da (by omega) | exact lay_sh (by omega) | exact lay_se (by omega)) (by omega) ⟨rfl, hqk, by decide⟩ ?_
        refine v_e0 (congrArg Value.int hW) ?_
        refine v_ist4 dX5_wayRoom_58 rfl ?_
        refine v_inc5 dX5_wayRoom_60 rfl ?_
        refine v_goto (tgt := 9) dX5_wayRoom_63 (by decide) ?_
        rw [nI_1 t]
        rw [wrm, if_neg hqne, htn]
        rw [if_pos (show q k < 6 from Nat.not_le.mp (fun z => h26 (nI_le z (by omega))))]
        exact ih (t + 1) (by omega) k' _ (by omega) (by omega) (by omega)

set_option maxRecDepth 4000 in
theorem c_X5_wayRoom {G : GG} {dc : Nat} {I : Nat → Nat → Int32} {L : Nat → Nat → Int64} {T : Nat → Nat} {s e B : Nat} {q : Nat → Nat} {x y : Int32} {k : Nat} (e1 : x = nI s) (e2 : y = nI (q k)) (hk : k < e) (hB : BF (I 21) (I 22) (stC I) s e q) (hT : ∀ x, x < 24 → I 20 x = nI (T x)) (hTB : ∀ x, x < 24 → T x ≤ B) (hB2 : B < 2 ^ 30) : Cn G yX5_wayRoom cX5_wayRoom 6 (some .int) 2 0 0 [.ref 19, .int x, .int y] (Mm dc I L) (Is (some (.int (nI (wrm (I 21) T s 10 (q k) 2147483647)))) (Mm dc I L)) := by
  subst e1
  subst e2
  have hle := hB.le
  refine Cn.of' (by decide) (Nat.le_of_ble_eq_true rfl) rfl ?_
  refine v_ldc dX5_wayRoom_0 kc_X5_68 ?_
  refine v_e0 (congrArg Value.int (show (2147483647 : Int32) = nI 2147483647 by decide)) ?_
  refine v_ist3 dX5_wayRoom_2 rfl ?_
  refine v_ild2 dX5_wayRoom_3 ?_
  refine v_ist4 dX5_wayRoom_4 rfl ?_
  refine v_icN (n := 0) dX5_wayRoom_6 (by decide) ?_
  refine v_ist5 dX5_wayRoom_7 rfl ?_
  exact lp_wr hB hT hTB hB2 10 0 (by omega) k _ hk (by omega) (by decide)

def agV (I J : Nat → Nat → Int32) : Prop := ∀ x j, x ≠ 20 → J x j = I x j
def mwP (dc : Nat) (I : Nat → Nat → Int32) (L : Nat → Nat → Int64) (H : Nat → Prop) (M : Nat → Nat) (c v u : Nat) : Option Value → Mem → Prop := fun r μ => r = none ∧ ∃ (J : Nat → Nat → Int32) (T : Nat → Nat), μ = Mm dc J L ∧ agV I J ∧ (∀ x, x < 24 → J 20 x = nI (T x)) ∧ SmT H M (updN T c v) ∧ T c = u
theorem mvT_u {T : Nat → Nat} {a b D c v : Nat} (h : clN a b ≠ c) : mvT (updN T c v) a b D = updN (mvT T a b D) c v := by
  funext x
  unfold mvT
  rw [updN_o T _ h]
  unfold updN
  by_cases h1 : x = clN a b
  · rw [if_pos h1, if_neg (fun z => h (h1.symm.trans z)), if_pos h1]
  · rw [if_neg h1]
    by_cases h2 : x = c
    · rw [if_pos h2, if_pos h2]
    · rw [if_neg h2, if_neg h2, if_neg h1]

set_option maxRecDepth 4000 in
theorem lp_ma {G : GG} {dc : Nat} {I : Nat → Nat → Int32} {L : Nat → Nat → Int64} {H : Nat → Prop} {M T0 : Nat → Nat} {c s e v u D : Nat} {q : Nat → Nat} {xg : Int32} (hB : BF (I 21) (I 22) (stS H (fun x => ¬ T0 x = 0) c) s e q) (f : Nat) : ∀ t, t + f = 10 → ∀ k, k < e → k < f → pOK (I 21) T0 s D f (q k) → ∀ (J : Nat → Nat → Int32) (T : Nat → Nat), agV I J → (∀ x, x < 24 → J 20 x = nI (T x)) → PI H M T0 c s D q k (updN T c v) → T c = u → V G yX5_moveAlong cX5_moveAlong 6 none 2 0 0 6 [.ref 19, .int (nI s), .int xg, .int (nI D), .int (nI (q k)), .int (nI t)] [] (Mm dc J L) (mwP dc I L H M c v u) := by
  induction f with
  | zero => intro t ht k hk hk2; omega
  | succ f ih =>
    intro t ht k hk hk2 hok J T hJ hT hP hu
    have hqk := (hB.ql k hk).1
    have hs10 : s < 10 := by have := (hB.ql 0 hB.e1).1; rw [hB.q0] at this; exact this
    refine v_ild5 dX5_moveAlong_6 ?_
    refine v_bipush (v := nI 10) dX5_moveAlong_8 (by decide) ?_
    refine v_icmp_ge (tgt := 67) dX5_moveAlong_10 (by decide) (fun h10 => absurd h10 (nI_ge (by omega) (by decide))) (fun h10 => ?_)
    refine v_ild4 dX5_moveAlong_13 ?_
    refine v_ild1 dX5_moveAlong_15 ?_
    refine v_icmp_eq (tgt := 67) dX5_moveAlong_16 (by decide) (fun h16 => ?_) (fun h16 => ?_)
    · exact v_retV dX5_moveAlong_67 trivial (by
        have hks : q k = s := (nI_eq (by omega) (by omega)).mp h16
        have hk0 : k = 0 := Classical.byContradiction fun z => hB.qd k hk 0 (by omega) (by rw [hB.q0, hks])
        rw [hk0] at hP
        exact ⟨rfl, J, T, rfl, hJ, hT, hP.fin hB.q0, hu⟩)
    · have hk0 : k ≠ 0 := fun z => h16 (by rw [z, hB.q0])
      obtain ⟨k', hk', hW, hR⟩ := hB.pr k hk (by omega)
      have hqk2 := (hB.ql k' (by omega)).1
      have hl := clN_lt hR.1
      have hw21 : J 21 (q k) = nI (q k') := (hJ 21 (q k) (by decide)).trans hW
      have hqne : ¬ q k = s := fun z => h16 (by rw [z])
      have htn : tn (I 21 (q k)) = q k' := by rw [hW]; exact tn_nI (by omega)
      obtain ⟨hD1, hok2⟩ := hok.resolve_left hqne
      rw [htn] at hD1 hok2
      have hcell : T (clN (q k') (q k)) = T0 (clN (q k') (q k)) := (updN_o T v hR.2.1).symm.trans (hP.2.1 k' k (by omega) (Nat.le_refl _) hR.1 hR.2.1)
      refine v_ald0 dX5_moveAlong_19 ?_
      refine v_getP (q := 20) dX5_moveAlong_20 fl_X5_11 (by first | rfl | exact lay_door (by omega) | exact lay_dt (by omega) | exact lay_da (by omega) | exact lay_sh (by omega) | exact lay_se (by omega)) rfl (by omega) rfl ?_
      refine v_ald0 dX5_moveAlong_23 ?_
      refine v_getP (q := 21) dX5_moveAlong_24 fl_X5_17 (by first | rfl | exact lay_door (by omega) | exact lay_dt (by omega) | exact lay_da (by omega) | exact lay_sh (by omega) | exact lay_se (by omega)) rfl (by omega) rfl ?_
      refine v_ild4 dX5_moveAlong_27 ?_
      refine v_iald dX5_moveAlong_29 (by first | rfl | exact lay_door (by omega) | exact lay_dt (by omega) | exact lay_da (by omega) | exact lay_sh (by omega) | exact lay_se (by omega)) (by omega) ⟨rfl, hqk, by decide⟩ ?_
      refine v_e0 (congrArg Value.int hw21) ?_
      refine v_ild4 dX5_moveAlong_30 ?_
      refine v_S2 (c_X5_cellOf rfl rfl hR.1) lk_X5_60 dX5_moveAlong_32 (by decide) (Nat.le_of_ble_eq_true rfl) ?_
      refine v_dup2 dX5_moveAlong_35 ?_
      refine v_iald dX5_moveAlong_36 (by first | rfl | exact lay_door (by omega) | exact lay_dt (by omega) | exact lay_da (by omega) | exact lay_sh (by omega) | exact lay_se (by omega)) (by omega) ⟨rfl, hl, by decide⟩ ?_
      refine v_ild4 dX5_moveAlong_37 ?_
      refine v_bipush (v := nI 6) dX5_moveAlong_39 (by decide) ?_
      refine v_icmp_ge (tgt := 49) dX5_moveAlong_41 (by decide) (fun h41 => ?_) (fun h41 => ?_)
      · have hlow : ¬ q k < 6 := fun z => nI_ge z (by decide) h41
        refine v_ild3 dX5_moveAlong_49 ?_
        refine v_iadd dX5_moveAlong_50 ?_
        refine v_iast dX5_moveAlong_51 (by first | rfl | exact lay_door (by omega) | exact lay_dt (by omega) | exact lay_da (by omega) | exact lay_sh (by omega) | exact lay_se (by omega)) (by omega) ⟨rfl, hl, by decide⟩ ?_
        refine v_ald0 dX5_moveAlong_52 ?_
        refine v_getP (q := 21) dX5_moveAlong_53 fl_X5_17 (by first | rfl | exact lay_door (by omega) | exact lay_dt (by omega) | exact lay_da (by omega) | exact lay_sh (by omega) | exact lay_se (by omega)) rfl (by omega) rfl ?_
        refine v_ild4 dX5_moveAlong_56 ?_
        refine v_iald dX5_moveAlong_58 (by first | rfl | exact lay_door (by omega) | exact lay_dt (by omega) | exact lay_da (by omega) | exact lay_sh (by omega) | exact lay_se (by omega)) (by omega) ⟨rfl, hqk, by decide⟩ ?_
        refine v_e0 (congrArg Value.int ((u2_a _ _ _ _ (by decide)).trans hw21)) ?_
        refine v_ist4 dX5_moveAlong_59 rfl ?_
        refine v_inc5 dX5_moveAlong_61 rfl ?_
        refine v_goto (tgt := 6) dX5_moveAlong_64 (by decide) ?_
        rw [nI_1 t]
        refine ih (t + 1) (by omega) k' (by omega) (by omega) hok2 _ (mvT T (q k') (q k) D) (fun x j hx => (u2_a _ _ _ _ hx).trans (hJ x j hx)) (mvT_J hT ?_) ?_ ((mvT_c hR.2.1).trans hu)
        · rw [hT _ hl, if_pos (show q k' < 6 by have := hR.1; omega)]; exact nI_add _ _
        · rw [← mvT_u hR.2.1]; exact hP.step hk' (fun i hi => hB.qd k hk i hi) hR (fun z => hD1 (by have := hR.1; omega))
      · have hlow : q k < 6 := Nat.not_le.mp (fun z => h41 (nI_le z (by omega)))
        refine v_ild3 dX5_moveAlong_44 ?_
        refine v_ineg dX5_moveAlong_45 ?_
        refine v_goto (tgt := 50) dX5_moveAlong_46 (by decide) ?_
        refine v_iadd dX5_moveAlong_50 ?_
        refine v_iast dX5_moveAlong_51 (by first | rfl | exact lay_door (by omega) | exact lay_dt (by omega) | exact lay_da (by omega) | exact lay_sh (by omega) | exact lay_se (by omega)) (by omega) ⟨rfl, hl, by decide⟩ ?_
        refine v_ald0 dX5_moveAlong_52 ?_
        refine v_getP (q := 21) dX5_moveAlong_53 fl_X5_17 (by first | rfl | exact lay_door (by omega) | exact lay_dt (by omega) | exact lay_da (by omega) | exact lay_sh (by omega) | exact lay_se (by omega)) rfl (by omega) rfl ?_
        refine v_ild4 dX5_moveAlong_56 ?_
        refine v_iald dX5_moveAlong_58 (by first | rfl | exact lay_door (by omega) | exact lay_dt (by omega) | exact lay_da (by omega) | exact lay_sh (by omega) | exact lay_se (by omega)) (by omega) ⟨rfl, hqk, by decide⟩ ?_
        refine v_e0 (congrArg Value.int ((u2_a _ _ _ _ (by decide)).trans hw21)) ?_
        refine v_ist4 dX5_moveAlong_59 rfl ?_
        refine v_inc5 dX5_moveAlong_61 rfl ?_
        refine v_goto (tgt := 6) dX5_moveAlong_64 (by decide) ?_
        rw [nI_1 t]
        refine ih (t + 1) (by omega) k' (by omega) (by omega) hok2 _ (mvT T (q k') (q k) D) (fun x j hx => (u2_a _ _ _ _ hx).trans (hJ x j hx)) (mvT_J hT ?_) ?_ ((mvT_c hR.2.1).trans hu)
        · rw [hT _ hl, if_neg (show ¬ q k' < 6 by have := hR.1; omega)]; exact nI_an (by rw [hcell]; exact hD1 (by omega))
        · rw [← mvT_u hR.2.1]; exact hP.step hk' (fun i hi => hB.qd k hk i hi) hR (fun z => hD1 (by have := hR.1; omega))

set_option maxRecDepth 4000 in
theorem c_X5_moveAlong {G : GG} {dc : Nat} {I : Nat → Nat → Int32} {L : Nat → Nat → Int64} {H : Nat → Prop} {M T0 : Nat → Nat} {c s e v D : Nat} {q : Nat → Nat} {x y z : Int32} {k : Nat} (e1 : x = nI s) (e2 : y = nI (q k)) (e3 : z = nI D) (hk : k < e) (hB : BF (I 21) (I 22) (stS H (fun x => ¬ T0 x = 0) c) s e q) (hok : pOK (I 21) T0 s D 10 (q k)) (hT : ∀ x, x < 24 → I 20 x = nI (T0 x)) (hP : PI H M T0 c s D q k (updN T0 c v)) : Cn G yX5_moveAlong cX5_moveAlong 6 none 2 0 0 [.ref 19, .int x, .int y, .int z] (Mm dc I L) (mwP dc I L H M c v (T0 c)) := by
  subst e1
  subst e2
  subst e3
  have hle := hB.le
  refine Cn.of' (by decide) (Nat.le_of_ble_eq_true rfl) rfl ?_
  refine v_ild2 dX5_moveAlong_0 ?_
  refine v_ist4 dX5_moveAlong_1 rfl ?_
  refine v_icN (n := 0) dX5_moveAlong_3 (by decide) ?_
  refine v_ist5 dX5_moveAlong_4 rfl ?_
  exact lp_ma hB 10 0 (by omega) k hk (by omega) hok I T0 (fun _ _ _ => rfl) hT hP rfl

def agE5 (I J : Nat → Nat → Int32) : Prop := ∀ x j, x ≠ 20 → x ≠ 21 → x ≠ 22 → ¬ (x = 19 ∧ j = 3) → J x j = I x j
def exP (dc : Nat) (I : Nat → Nat → Int32) (L : Nat → Nat → Int64) (up : Prop) (H : Nat → Prop) (M : Nat → Nat) (c : Nat) : Option Value → Mem → Prop := fun r μ => ∃ (J : Nat → Nat → Int32) (v : Nat), r = some (.int (nI v)) ∧ μ = Mm dc J L ∧ agE5 I J ∧ XT up H M c v
theorem sb_oth {x : Int32} {c j : Nat} (hc : c < 32) (hj : j < 32) : sbit (oth x c) (nI j) ↔ sbit x (nI j) ∧ j ≠ c := by
  rw [sb_iff hj, sb_iff hj, gb_and, gb_n1 c hc j hj, Bool.and_eq_true, decide_eq_true_iff]
theorem stC_S {J : Nat → Nat → Int32} {T : Nat → Nat} {B c : Nat} {x : Int32} (hx : J 19 3 = oth x c) (hc : c < 24) (hT : ∀ x, x < 24 → J 20 x = nI (T x)) (hTB : ∀ x, x < 24 → T x ≤ B) (hB2 : B < 2 ^ 30) : stC J = stS (fun j => sbit x (nI j)) (fun j => ¬ T j = 0) c := by
  funext a b
  apply propext
  have e : ∀ j, j < 24 → ((¬ J 20 j ≤ 0) ↔ ¬ T j = 0) := fun j hj => by
    rw [hT j hj]
    have hb := hTB j hj
    exact ⟨fun z y => z (nI_le (b := 0) (by omega) (by omega)), fun z => nI_nle (by omega) (by omega)⟩
  constructor
  · intro ⟨h1, h2, h3⟩
    have hl := clN_lt h1
    rw [hx, sb_oth (by omega) (by omega)] at h2
    exact ⟨h1, h2.2, h2.1, h3.imp id (e _ hl).mp⟩
  · intro ⟨h1, h2, h3, h4⟩
    have hl := clN_lt h1
    refine ⟨h1, ?_, h4.imp id (e _ hl).mpr⟩
    rw [hx, sb_oth (by omega) (by omega)]
    exact ⟨h3, h2⟩

set_option maxRecDepth 4000 in
theorem lp_exU {G : GG} {dc : Nat} {I : Nat → Nat → Int32} {L : Nat → Nat → Int64} {M : Nat → Nat} {c B : Nat} {w hd : Int32} (hc : c < 24) (hH : (fun j => sbit hd (nI j)) c) (hB : ∀ v, v < 10 → nS M v ≤ B) (hB2 : B ≤ 50000) (hw : ¬ w = 0) : ∀ (f : Nat) (J : Nat → Nat → Int32) (T : Nat → Nat) (rd : Nat) (u10 : Value), B + 1 ≤ f + T c → rd + f ≤ 60000 → agE5 I J → J 19 3 = oth hd c → (∀ x, x < 24 → J 20 x = nI (T x)) → SmT (fun j => sbit hd (nI j)) M T → V G yX5_extreme cX5_extreme 11 (some .int) 4 0 0 67 [.ref 19, .ref 17, .int hd, .int (nI c), .int w, .int (nI (c / 4)), .int (nI (6 + c % 4)), .int (nI (6 + c % 4)), .int (nI (c / 4)), .int (nI rd), u10] [] (Mm dc J L) (exP dc I L (¬ w = 0) (fun j => sbit hd (nI j)) M c) := by
  intro f
  induction f with
  | zero => intro J T rd u10 hf hrd hJ hop hT hS; have := hS.le hB hc; omega
  | succ f ih =>
    intro J T rd u10 hf hrd hJ hop hT hS
    have hle : ∀ x, x < 24 → T x ≤ B := fun x hx => hS.le hB hx
    have hst := stC_S hop hc hT hle (by omega)
    refine v_ild9 dX5_extreme_67 ?_
    refine v_ldc dX5_extreme_69 kc_X5_33 ?_
    refine v_e0 (congrArg Value.int (show (100000 : Int32) = nI 100000 by decide)) ?_
    refine v_icmp_ge (tgt := 159) dX5_extreme_71 (by decide) (fun h71 => absurd h71 (nI_ge (by omega) (by decide))) (fun h71 => ?_)
    refine v_ald0 dX5_extreme_74 ?_
    refine v_ild7 dX5_extreme_75 ?_
    refine v_ild8 dX5_extreme_77 ?_
    refine v_V2p (c_X5_findWay (s := (6 + c % 4)) (g := (c / 4)) rfl rfl (by omega) (by omega)) lk_X5_34 dX5_extreme_79 (by decide) (Nat.le_of_ble_eq_true rfl) rfl (show _ < 78 + 3 * _ by omega) (fun r μ₁ h => ?_)
    obtain ⟨K, rfl, rfl, hK, hbf⟩ := h
    rw [hst] at hbf ⊢
    have hKT : ∀ x, x < 24 → K 20 x = nI (T x) := fun x hx => (hK 20 x (by decide) (by decide)).trans (hT x hx)
    have hKJ : agE5 I K := fun x j h1 h2 h3 h4 => (hK x j h2 h3).trans (hJ x j h1 h2 h3 h4)
    have hKo : K 19 3 = oth hd c := (hK 19 3 (by decide) (by decide)).trans hop
    have hstK := stC_S hKo hc hKT hle (by omega)
    refine v_ifeq_b (tgt := 159) dX5_extreme_82 (by decide) (fun h82 => ?_) (fun h82 => ?_)
    · refine v_ald0 dX5_extreme_159 ?_
      refine v_getP (q := 20) dX5_extreme_160 fl_X5_11 (by first | rfl | exact lay_door (by omega) | exact lay_dt (by omega) | exact lay_da (by omega) | exact lay_sh (by omega) | exact lay_se (by omega)) rfl (by omega) rfl ?_
      refine v_ild3 dX5_extreme_163 ?_
      refine v_iald dX5_extreme_164 (by first | rfl | exact lay_door (by omega) | exact lay_dt (by omega) | exact lay_da (by omega) | exact lay_sh (by omega) | exact lay_se (by omega)) (by omega) ⟨rfl, hc, by decide⟩ ?_
      exact v_retI dX5_extreme_165 trivial ⟨K, T c, by rw [hKT c hc], rfl, hKJ, XT_end hc hS (fun _ => h82) (fun z => absurd hw z)⟩
    · refine v_ald0 dX5_extreme_85 ?_
      refine v_ild7 dX5_extreme_86 ?_
      refine v_ild8 dX5_extreme_88 ?_
      obtain ⟨e, q, hbf, k, hk, hqk⟩ := hbf h82
      have hbf2 : BF (K 21) (K 22) (stC K) (6 + c % 4) e q := by rw [hstK]; exact hbf
      have hadjR : ∀ a b, stC K a b → adj a b ∧ (a < 6 ∨ 1 ≤ T (clN a b)) := fun a b h => by rw [hstK] at h; exact ⟨h.1, h.2.2.2.imp id (fun z => by omega)⟩
      have hr1 := wrm_1 hbf2 hadjR 10 k 2147483647 hk (by decide)
      have hrM := wrm_le (W := K 21) (T := T) (s := (6 + c % 4)) 10 (q k) 2147483647
      refine v_V2 (c_X5_wayRoom (k := k) rfl (by rw [hqk]) hk hbf2 hKT hle (by omega)) lk_X5_38 dX5_extreme_90 (by decide) (Nat.le_of_ble_eq_true rfl) rfl (show _ < 78 + 3 * _ by omega) ?_
      generalize hρ : wrm (K 21) T (6 + c % 4) 10 (q k) 2147483647 = ρ at hr1 hrM ⊢
      refine v_ist10 dX5_extreme_93 rfl ?_
      refine v_ild4 dX5_extreme_95 ?_
      refine v_if_ne (tgt := 113) dX5_extreme_97 (by decide) (fun h97 => ?_) (fun h97 => absurd h97 hw)
      refine v_ild10 dX5_extreme_113 ?_
      refine v_if_gt (tgt := 121) dX5_extreme_115 (by decide) (fun h115 => ?_) (fun h115 => absurd (nI_lt (a := 0) (by omega) (by omega)) h115)
      refine v_ald0 dX5_extreme_121 ?_
      refine v_ild7 dX5_extreme_122 ?_
      refine v_ild8 dX5_extreme_124 ?_
      refine v_ild10 dX5_extreme_126 ?_
      have hok := wrm_ok (D := ρ) (W := K 21) (T := T) (s := (6 + c % 4)) 10 (q k) 2147483647 (by omega)
      refine v_V3p (c_X5_moveAlong (H := (fun j => sbit hd (nI j))) (M := M) (T0 := T) (c := c) (v := (T c + ρ)) (D := ρ) (k := k) rfl (by rw [hqk]) rfl hk hbf hok hKT (PI.start hS hc hH hqk (Or.inl ⟨rfl, rfl, rfl⟩))) lk_X5_47 dX5_extreme_128 (by decide) (Nat.le_of_ble_eq_true rfl) rfl (show _ < 78 + 3 * _ by omega) (fun r μ₁ h => ?_)
      obtain ⟨rfl, K2, T2, rfl, hK2, hT2, hS2, hv2⟩ := h
      refine v_ald0 dX5_extreme_131 ?_
      refine v_getP (q := 20) dX5_extreme_132 fl_X5_11 (by first | rfl | exact lay_door (by omega) | exact lay_dt (by omega) | exact lay_da (by omega) | exact lay_sh (by omega) | exact lay_se (by omega)) rfl (by omega) rfl ?_
      refine v_ild3 dX5_extreme_135 ?_
      refine v_dup2 dX5_extreme_136 ?_
      refine v_iald dX5_extreme_137 (by first | rfl | exact lay_door (by omega) | exact lay_dt (by omega) | exact lay_da (by omega) | exact lay_sh (by omega) | exact lay_se (by omega)) (by omega) ⟨rfl, hc, by decide⟩ ?_
      refine v_ild4 dX5_extreme_138 ?_
      refine v_if_eq (tgt := 148) dX5_extreme_140 (by decide) (fun h140 => absurd h140 hw) (fun h140 => ?_)
      refine v_ild10 dX5_extreme_143 ?_
      refine v_goto (tgt := 151) dX5_extreme_145 (by decide) ?_
      refine v_iadd dX5_extreme_151 ?_
      refine v_e0 (congrArg Value.int (show _ = nI (T c + ρ) from by rw [hT2 c hc, hv2]; exact nI_add _ _)) ?_
      refine v_iast dX5_extreme_152 (by first | rfl | exact lay_door (by omega) | exact lay_dt (by omega) | exact lay_da (by omega) | exact lay_sh (by omega) | exact lay_se (by omega)) (by omega) ⟨rfl, hc, by decide⟩ ?_
      refine v_inc9 dX5_extreme_153 rfl ?_
      refine v_goto (tgt := 67) dX5_extreme_156 (by decide) ?_
      rw [nI_1 rd]
      refine ih _ (updN T2 c (T c + ρ)) (rd + 1) _ (by rw [updN_s]; omega) (by omega) (fun x j h1 h2 h3 h4 => (u2_a _ _ _ _ h1).trans ((hK2 x j h1).trans (hKJ x j h1 h2 h3 h4))) ((u2_a _ _ _ _ (by decide)).trans ((hK2 19 3 (by decide)).trans hKo)) (fun x hx => ?_) hS2
      by_cases z : x = c
      · rw [z, u2_s, updN_s]
      · rw [u2_k _ _ _ _ z, updN_o _ _ z]; exact hT2 x hx

set_option maxRecDepth 4000 in
theorem lp_exD {G : GG} {dc : Nat} {I : Nat → Nat → Int32} {L : Nat → Nat → Int64} {M : Nat → Nat} {c B : Nat} {w hd : Int32} (hc : c < 24) (hH : (fun j => sbit hd (nI j)) c) (hB : ∀ v, v < 10 → nS M v ≤ B) (hB2 : B ≤ 50000) (hw : w = 0) : ∀ (f : Nat) (J : Nat → Nat → Int32) (T : Nat → Nat) (rd : Nat) (u10 : Value), T c < f → rd + f ≤ 60000 → agE5 I J → J 19 3 = oth hd c → (∀ x, x < 24 → J 20 x = nI (T x)) → SmT (fun j => sbit hd (nI j)) M T → V G yX5_extreme cX5_extreme 11 (some .int) 4 0 0 67 [.ref 19, .ref 17, .int hd, .int (nI c), .int w, .int (nI (c / 4)), .int (nI (6 + c % 4)), .int (nI (c / 4)), .int (nI (6 + c % 4)), .int (nI rd), u10] [] (Mm dc J L) (exP dc I L (¬ w = 0) (fun j => sbit hd (nI j)) M c) := by
  intro f
  induction f with
  | zero => intro J T rd u10 hf hrd hJ hop hT hS; have := hS.le hB hc; omega
  | succ f ih =>
    intro J T rd u10 hf hrd hJ hop hT hS
    have hle : ∀ x, x < 24 → T x ≤ B := fun x hx => hS.le hB hx
    have hst := stC_S hop hc hT hle (by omega)
    refine v_ild9 dX5_extreme_67 ?_
    refine v_ldc dX5_extreme_69 kc_X5_33 ?_
    refine v_e0 (congrArg Value.int (show (100000 : Int32) = nI 100000 by decide)) ?_
    refine v_icmp_ge (tgt := 159) dX5_extreme_71 (by decide) (fun h71 => absurd h71 (nI_ge (by omega) (by decide))) (fun h71 => ?_)
    refine v_ald0 dX5_extreme_74 ?_
    refine v_ild7 dX5_extreme_75 ?_
    refine v_ild8 dX5_extreme_77 ?_
    refine v_V2p (c_X5_findWay (s := (c / 4)) (g := (6 + c % 4)) rfl rfl (by omega) (by omega)) lk_X5_34 dX5_extreme_79 (by decide) (Nat.le_of_ble_eq_true rfl) rfl (show _ < 78 + 3 * _ by omega) (fun r μ₁ h => ?_)
    obtain ⟨K, rfl, rfl, hK, hbf⟩ := h
    rw [hst] at hbf ⊢
    have hKT : ∀ x, x < 24 → K 20 x = nI (T x) := fun x hx => (hK 20 x (by decide) (by decide)).trans (hT x hx)
    have hKJ : agE5 I K := fun x j h1 h2 h3 h4 => (hK x j h2 h3).trans (hJ x j h1 h2 h3 h4)
    have hKo : K 19 3 = oth hd c := (hK 19 3 (by decide) (by decide)).trans hop
    have hstK := stC_S hKo hc hKT hle (by omega)
    refine v_ifeq_b (tgt := 159) dX5_extreme_82 (by decide) (fun h82 => ?_) (fun h82 => ?_)
    · refine v_ald0 dX5_extreme_159 ?_
      refine v_getP (q := 20) dX5_extreme_160 fl_X5_11 (by first | rfl | exact lay_door (by omega) | exact lay_dt (by omega) | exact lay_da (by omega) | exact lay_sh (by omega) | exact lay_se (by omega)) rfl (by omega) rfl ?_
      refine v_ild3 dX5_extreme_163 ?_
      refine v_iald dX5_extreme_164 (by first | rfl | exact lay_door (by omega) | exact lay_dt (by omega) | exact lay_da (by omega) | exact lay_sh (by omega) | exact lay_se (by omega)) (by omega) ⟨rfl, hc, by decide⟩ ?_
      exact v_retI dX5_extreme_165 trivial ⟨K, T c, by rw [hKT c hc], rfl, hKJ, XT_end hc hS (fun z => absurd hw z) (fun _ => Or.inr h82)⟩
    · refine v_ald0 dX5_extreme_85 ?_
      refine v_ild7 dX5_extreme_86 ?_
      refine v_ild8 dX5_extreme_88 ?_
      obtain ⟨e, q, hbf, k, hk, hqk⟩ := hbf h82
      have hbf2 : BF (K 21) (K 22) (stC K) (c / 4) e q := by rw [hstK]; exact hbf
      have hadjR : ∀ a b, stC K a b → adj a b ∧ (a < 6 ∨ 1 ≤ T (clN a b)) := fun a b h => by rw [hstK] at h; exact ⟨h.1, h.2.2.2.imp id (fun z => by omega)⟩
      have hr1 := wrm_1 hbf2 hadjR 10 k 2147483647 hk (by decide)
      have hrM := wrm_le (W := K 21) (T := T) (s := (c / 4)) 10 (q k) 2147483647
      refine v_V2 (c_X5_wayRoom (k := k) rfl (by rw [hqk]) hk hbf2 hKT hle (by omega)) lk_X5_38 dX5_extreme_90 (by decide) (Nat.le_of_ble_eq_true rfl) rfl (show _ < 78 + 3 * _ by omega) ?_
      generalize hρ : wrm (K 21) T (c / 4) 10 (q k) 2147483647 = ρ at hr1 hrM ⊢
      refine v_ist10 dX5_extreme_93 rfl ?_
      refine v_ild4 dX5_extreme_95 ?_
      refine v_if_ne (tgt := 113) dX5_extreme_97 (by decide) (fun h97 => absurd hw h97) (fun h97 => ?_)
      refine v_ild10 dX5_extreme_100 ?_
      refine v_ald0 dX5_extreme_102 ?_
      refine v_getP (q := 20) dX5_extreme_103 fl_X5_11 (by first | rfl | exact lay_door (by omega) | exact lay_dt (by omega) | exact lay_da (by omega) | exact lay_sh (by omega) | exact lay_se (by omega)) rfl (by omega) rfl ?_
      refine v_ild3 dX5_extreme_106 ?_
      refine v_iald dX5_extreme_107 (by first | rfl | exact lay_door (by omega) | exact lay_dt (by omega) | exact lay_da (by omega) | exact lay_sh (by omega) | exact lay_se (by omega)) (by omega) ⟨rfl, hc, by decide⟩ ?_
      refine v_e0 (congrArg Value.int (hKT c hc)) ?_
      refine v_mmin dX5_extreme_108 lj_X5_42 (by decide) (Nat.le_of_ble_eq_true rfl) ?_
      have hTc := hle c hc
      refine v_e0 (congrArg Value.int (nI_min (by omega) (by omega))) ?_
      refine v_ist10 dX5_extreme_111 rfl ?_
      refine v_ild10 dX5_extreme_113 ?_
      refine v_if_gt (tgt := 121) dX5_extreme_115 (by decide) (fun h115 => ?_) (fun h115 => ?_)
      · have hT1 : 1 ≤ T c := Classical.byContradiction fun z => by rw [show min ρ (T c) = 0 by omega] at h115; exact absurd h115 (by decide)
        refine v_ald0 dX5_extreme_121 ?_
        refine v_ild7 dX5_extreme_122 ?_
        refine v_ild8 dX5_extreme_124 ?_
        refine v_ild10 dX5_extreme_126 ?_
        have hDle := Nat.min_le_right ρ (T c)
        have hDl := Nat.min_le_left ρ (T c)
        have hok := wrm_ok (D := min ρ (T c)) (W := K 21) (T := T) (s := (c / 4)) 10 (q k) 2147483647 (by omega)
        refine v_V3p (c_X5_moveAlong (H := (fun j => sbit hd (nI j))) (M := M) (T0 := T) (c := c) (v := (T c - min ρ (T c))) (D := (min ρ (T c))) (k := k) rfl (by rw [hqk]) rfl hk hbf hok hKT (PI.start hS hc hH hqk (Or.inr ⟨rfl, rfl, Nat.min_le_right _ _, rfl⟩))) lk_X5_47 dX5_extreme_128 (by decide) (Nat.le_of_ble_eq_true rfl) rfl (show _ < 78 + 3 * _ by omega) (fun r μ₁ h => ?_)
        obtain ⟨rfl, K2, T2, rfl, hK2, hT2, hS2, hv2⟩ := h
        refine v_ald0 dX5_extreme_131 ?_
        refine v_getP (q := 20) dX5_extreme_132 fl_X5_11 (by first | rfl | exact lay_door (by omega) | exact lay_dt (by omega) | exact lay_da (by omega) | exact lay_sh (by omega) | exact lay_se (by omega)) rfl (by omega) rfl ?_
        refine v_ild3 dX5_extreme_135 ?_
        refine v_dup2 dX5_extreme_136 ?_
        refine v_iald dX5_extreme_137 (by first | rfl | exact lay_door (by omega) | exact lay_dt (by omega) | exact lay_da (by omega) | exact lay_sh (by omega) | exact lay_se (by omega)) (by omega) ⟨rfl, hc, by decide⟩ ?_
        refine v_ild4 dX5_extreme_138 ?_
        refine v_if_eq (tgt := 148) dX5_extreme_140 (by decide) (fun h140 => ?_) (fun h140 => absurd hw h140)
        refine v_ild10 dX5_extreme_148 ?_
        refine v_ineg dX5_extreme_150 ?_
        refine v_iadd dX5_extreme_151 ?_
        refine v_e0 (congrArg Value.int (show _ = nI (T c - min ρ (T c)) from by rw [hT2 c hc, hv2]; exact nI_an (Nat.min_le_right _ _))) ?_
        refine v_iast dX5_extreme_152 (by first | rfl | exact lay_door (by omega) | exact lay_dt (by omega) | exact lay_da (by omega) | exact lay_sh (by omega) | exact lay_se (by omega)) (by omega) ⟨rfl, hc, by decide⟩ ?_
        refine v_inc9 dX5_extreme_153 rfl ?_
        refine v_goto (tgt := 67) dX5_extreme_156 (by decide) ?_
        rw [nI_1 rd]
        refine ih _ (updN T2 c (T c - min ρ (T c))) (rd + 1) _ (by rw [updN_s]; omega) (by omega) (fun x j h1 h2 h3 h4 => (u2_a _ _ _ _ h1).trans ((hK2 x j h1).trans (hKJ x j h1 h2 h3 h4))) ((u2_a _ _ _ _ (by decide)).trans ((hK2 19 3 (by decide)).trans hKo)) (fun x hx => ?_) hS2
        by_cases z : x = c
        · rw [z, u2_s, updN_s]
        · rw [u2_k _ _ _ _ z, updN_o _ _ z]; exact hT2 x hx
      · have hT0 : T c = 0 := Classical.byContradiction fun z => h115 (nI_lt (a := 0) (by omega) (by have := Nat.min_le_right ρ (T c); have := hle c hc; omega))
        refine v_goto (tgt := 159) dX5_extreme_118 (by decide) ?_
        refine v_ald0 dX5_extreme_159 ?_
        refine v_getP (q := 20) dX5_extreme_160 fl_X5_11 (by first | rfl | exact lay_door (by omega) | exact lay_dt (by omega) | exact lay_da (by omega) | exact lay_sh (by omega) | exact lay_se (by omega)) rfl (by omega) rfl ?_
        refine v_ild3 dX5_extreme_163 ?_
        refine v_iald dX5_extreme_164 (by first | rfl | exact lay_door (by omega) | exact lay_dt (by omega) | exact lay_da (by omega) | exact lay_sh (by omega) | exact lay_se (by omega)) (by omega) ⟨rfl, hc, by decide⟩ ?_
        exact v_retI dX5_extreme_165 trivial ⟨K, T c, by rw [hKT c hc], rfl, hKJ, XT_end hc hS (fun z => absurd hw z) (fun _ => Or.inl hT0)⟩

set_option maxRecDepth 4000 in
theorem c_exU {G : GG} {dc : Nat} {I : Nat → Nat → Int32} {L : Nat → Nat → Int64} {M : Nat → Nat} {c B : Nat} {w hd : Int32} {xc : Int32} (e1 : xc = nI c) (hc : c < 24) (hH : (fun j => sbit hd (nI j)) c) (hB : ∀ v, v < 10 → nS M v ≤ B) (hB2 : B ≤ 50000) (hM : ∀ x, x < 24 → I 17 x = nI (M x)) (hw : ¬ w = 0) : Cn G yX5_extreme cX5_extreme 11 (some .int) 4 0 0 [.ref 19, .ref 17, .int hd, .int xc, .int w] (Mm dc I L) (exP dc I L (¬ w = 0) (fun j => sbit hd (nI j)) M c) := by
  subst e1
  refine Cn.of' (by decide) (Nat.le_of_ble_eq_true rfl) rfl ?_
  refine v_ald1 dX5_extreme_0 ?_
  refine v_icN (n := 0) dX5_extreme_1 (by decide) ?_
  refine v_ald0 dX5_extreme_2 ?_
  refine v_getP (q := 20) dX5_extreme_3 fl_X5_11 (by first | rfl | exact lay_door (by omega) | exact lay_dt (by omega) | exact lay_da (by omega) | exact lay_sh (by omega) | exact lay_se (by omega)) rfl (by omega) rfl ?_
  refine v_icN (n := 0) dX5_extreme_6 (by decide) ?_
  refine v_bipush (v := nI 24) dX5_extreme_7 (by decide) ?_
  refine v_copyI dX5_extreme_9 lj_X5_23 (by decide) (Nat.le_of_ble_eq_true rfl) rfl rfl (by omega) (by omega) (i := 0) (j := 0) (k0 := 24) rfl rfl rfl (by decide) (by decide) (by decide) (by decide) ?_
  refine v_ald0 dX5_extreme_12 ?_
  refine v_ild2 dX5_extreme_13 ?_
  refine v_icN (n := 1) dX5_extreme_14 (by decide) ?_
  refine v_ild3 dX5_extreme_15 ?_
  refine v_ishl dX5_extreme_16 ?_
  refine v_icm1 dX5_extreme_17 ?_
  refine v_ixor dX5_extreme_18 ?_
  refine v_iand dX5_extreme_19 ?_
  refine v_putI dX5_extreme_20 fl_X5_29 ft_5_3 (by first | rfl | exact lay_door (by omega) | exact lay_dt (by omega) | exact lay_da (by omega) | exact lay_sh (by omega) | exact lay_se (by omega)) rfl (by omega) ?_
  refine v_ild3 dX5_extreme_23 ?_
  refine v_icN (n := 4) dX5_extreme_24 (by decide) ?_
  refine v_idiv dX5_extreme_25 (by decide) ?_
  refine v_e0 (congrArg Value.int (show _ = nI (c / 4) from pk_div (by omega) (by decide) (by decide))) ?_
  refine v_ist5 dX5_extreme_26 rfl ?_
  refine v_bipush (v := nI 6) dX5_extreme_28 (by decide) ?_
  refine v_ild3 dX5_extreme_30 ?_
  refine v_icN (n := 4) dX5_extreme_31 (by decide) ?_
  refine v_irem dX5_extreme_32 (by decide) ?_
  refine v_iadd dX5_extreme_33 ?_
  refine v_e0 (congrArg Value.int (show _ = nI (6 + c % 4) from by rw [pk_rem (by omega) (by decide) (by decide), nI_add])) ?_
  refine v_ist6 dX5_extreme_34 rfl ?_
  refine v_ild4 dX5_extreme_36 ?_
  refine v_if_eq (tgt := 46) dX5_extreme_38 (by decide) (fun h38 => absurd h38 hw) (fun h38 => ?_)
  refine v_ild6 dX5_extreme_41 ?_
  refine v_goto (tgt := 48) dX5_extreme_43 (by decide) ?_
  refine v_ist7 dX5_extreme_48 rfl ?_
  refine v_ild4 dX5_extreme_50 ?_
  refine v_if_eq (tgt := 60) dX5_extreme_52 (by decide) (fun h52 => absurd h52 hw) (fun h52 => ?_)
  refine v_ild5 dX5_extreme_55 ?_
  refine v_goto (tgt := 62) dX5_extreme_57 (by decide) ?_
  refine v_ist8 dX5_extreme_62 rfl ?_
  refine v_icN (n := 0) dX5_extreme_64 (by decide) ?_
  refine v_ist9 dX5_extreme_65 rfl ?_
  have hJ : agE5 I (u2 (cp2 I 17 20 0 0 24) 19 3 (oth hd c)) := fun x j h1 _ _ h4 => (if_neg h4).trans (cp2_o _ _ h1)
  have hT : ∀ x, x < 24 → (u2 (cp2 I 17 20 0 0 24) 19 3 (oth hd c)) 20 x = nI (M x) := fun x hx => by
    rw [u2_a _ _ _ _ (by decide)]
    show (if 20 = 20 ∧ 0 ≤ x ∧ x < 0 + 24 then I 17 (0 + (x - 0)) else I 20 x) = nI (M x)
    rw [if_pos ⟨rfl, by omega, by omega⟩, show 0 + (x - 0) = x by omega]; exact hM x hx
  exact lp_exU hc hH hB hB2 hw (B + 1) _ M 0 _ (by omega) (by omega) hJ (u2_s _ _ _ _) hT SmT.rf

set_option maxRecDepth 4000 in
theorem c_exD {G : GG} {dc : Nat} {I : Nat → Nat → Int32} {L : Nat → Nat → Int64} {M : Nat → Nat} {c B : Nat} {w hd : Int32} {xc : Int32} (e1 : xc = nI c) (hc : c < 24) (hH : (fun j => sbit hd (nI j)) c) (hB : ∀ v, v < 10 → nS M v ≤ B) (hB2 : B ≤ 50000) (hM : ∀ x, x < 24 → I 17 x = nI (M x)) (hw : w = 0) : Cn G yX5_extreme cX5_extreme 11 (some .int) 4 0 0 [.ref 19, .ref 17, .int hd, .int xc, .int w] (Mm dc I L) (exP dc I L (¬ w = 0) (fun j => sbit hd (nI j)) M c) := by
  subst e1
  refine Cn.of' (by decide) (Nat.le_of_ble_eq_true rfl) rfl ?_
  refine v_ald1 dX5_extreme_0 ?_
  refine v_icN (n := 0) dX5_extreme_1 (by decide) ?_
  refine v_ald0 dX5_extreme_2 ?_
  refine v_getP (q := 20) dX5_extreme_3 fl_X5_11 (by first | rfl | exact lay_door (by omega) | exact lay_dt (by omega) | exact lay_da (by omega) | exact lay_sh (by omega) | exact lay_se (by omega)) rfl (by omega) rfl ?_
  refine v_icN (n := 0) dX5_extreme_6 (by decide) ?_
  refine v_bipush (v := nI 24) dX5_extreme_7 (by decide) ?_
  refine v_copyI dX5_extreme_9 lj_X5_23 (by decide) (Nat.le_of_ble_eq_true rfl) rfl rfl (by omega) (by omega) (i := 0) (j := 0) (k0 := 24) rfl rfl rfl (by decide) (by decide) (by decide) (by decide) ?_
  refine v_ald0 dX5_extreme_12 ?_
  refine v_ild2 dX5_extreme_13 ?_
  refine v_icN (n := 1) dX5_extreme_14 (by decide) ?_
  refine v_ild3 dX5_extreme_15 ?_
  refine v_ishl dX5_extreme_16 ?_
  refine v_icm1 dX5_extreme_17 ?_
  refine v_ixor dX5_extreme_18 ?_
  refine v_iand dX5_extreme_19 ?_
  refine v_putI dX5_extreme_20 fl_X5_29 ft_5_3 (by first | rfl | exact lay_door (by omega) | exact lay_dt (by omega) | exact lay_da (by omega) | exact lay_sh (by omega) | exact lay_se (by omega)) rfl (by omega) ?_
  refine v_ild3 dX5_extreme_23 ?_
  refine v_icN (n := 4) dX5_extreme_24 (by decide) ?_
  refine v_idiv dX5_extreme_25 (by decide) ?_
  refine v_e0 (congrArg Value.int (show _ = nI (c / 4) from pk_div (by omega) (by decide) (by decide))) ?_
  refine v_ist5 dX5_extreme_26 rfl ?_
  refine v_bipush (v := nI 6) dX5_extreme_28 (by decide) ?_
  refine v_ild3 dX5_extreme_30 ?_
  refine v_icN (n := 4) dX5_extreme_31 (by decide) ?_
  refine v_irem dX5_extreme_32 (by decide) ?_
  refine v_iadd dX5_extreme_33 ?_
  refine v_e0 (congrArg Value.int (show _ = nI (6 + c % 4) from by rw [pk_rem (by omega) (by decide) (by decide), nI_add])) ?_
  refine v_ist6 dX5_extreme_34 rfl ?_
  refine v_ild4 dX5_extreme_36 ?_
  refine v_if_eq (tgt := 46) dX5_extreme_38 (by decide) (fun h38 => ?_) (fun h38 => absurd hw h38)
  refine v_ild5 dX5_extreme_46 ?_
  refine v_ist7 dX5_extreme_48 rfl ?_
  refine v_ild4 dX5_extreme_50 ?_
  refine v_if_eq (tgt := 60) dX5_extreme_52 (by decide) (fun h52 => ?_) (fun h52 => absurd hw h52)
  refine v_ild6 dX5_extreme_60 ?_
  refine v_ist8 dX5_extreme_62 rfl ?_
  refine v_icN (n := 0) dX5_extreme_64 (by decide) ?_
  refine v_ist9 dX5_extreme_65 rfl ?_
  have hJ : agE5 I (u2 (cp2 I 17 20 0 0 24) 19 3 (oth hd c)) := fun x j h1 _ _ h4 => (if_neg h4).trans (cp2_o _ _ h1)
  have hT : ∀ x, x < 24 → (u2 (cp2 I 17 20 0 0 24) 19 3 (oth hd c)) 20 x = nI (M x) := fun x hx => by
    rw [u2_a _ _ _ _ (by decide)]
    show (if 20 = 20 ∧ 0 ≤ x ∧ x < 0 + 24 then I 17 (0 + (x - 0)) else I 20 x) = nI (M x)
    rw [if_pos ⟨rfl, by omega, by omega⟩, show 0 + (x - 0) = x by omega]; exact hM x hx
  exact lp_exD hc hH hB hB2 hw (M c + 1) _ M 0 _ (by omega) (by have := (SmT.rf (H := (fun j => sbit hd (nI j))) (M := M)).le hB hc; omega) hJ (u2_s _ _ _ _) hT SmT.rf

theorem c_X5_extreme {G : GG} {dc : Nat} {I : Nat → Nat → Int32} {L : Nat → Nat → Int64} {M : Nat → Nat} {c B : Nat} {w hd : Int32} {xc : Int32} (e1 : xc = nI c) (hc : c < 24) (hH : (fun j => sbit hd (nI j)) c) (hB : ∀ v, v < 10 → nS M v ≤ B) (hB2 : B ≤ 50000) (hM : ∀ x, x < 24 → I 17 x = nI (M x)) : Cn G yX5_extreme cX5_extreme 11 (some .int) 4 0 0 [.ref 19, .ref 17, .int hd, .int xc, .int w] (Mm dc I L) (exP dc I L (¬ w = 0) (fun j => sbit hd (nI j)) M c) := by
  by_cases hw : w = 0
  · exact c_exD e1 hc hH hB hB2 hM hw
  · exact c_exU e1 hc hH hB hB2 hM hw
