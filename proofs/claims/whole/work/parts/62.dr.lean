set_option maxRecDepth 4000 in
theorem c_xeY {G : GG} {dc : Nat} {I : Nat → Nat → Int32} {L : Nat → Nat → Int64} {M : Nat → Nat} {B : Nat} {r c w : Int32} (hd : ¬ I 15 5 = 0 ∧ isC r c) (hB : ∀ v, v < 10 → nS M v ≤ B) (hB2 : B ≤ 50000) (hM : ∀ x, x < 24 → I 17 x = nI (M x)) : Cn G yX6_extreme cX6_extreme 4 (some .int) 5 0 0 [.ref 15, .int r, .int c, .int w] (Mm dc I L) (exP dc I L (¬ w = 0) (fun j => sbit (I 15 4) (nI j)) M (4 * tn r + tn c)) := by
  obtain ⟨hd1, hd2, hd3⟩ := hd
  have hr9 := tn_lt rfl (by decide) hd2
  have hc9 := tn_lt rfl (by decide) hd3
  have hcl : 4 * tn r + tn c < 24 := by omega
  have hidx := (show r * nI 4 + c = nI (4 * tn r + tn c) from by rw [show 4 * tn r + tn c = tn r * 4 + tn c by omega, ← nI_add, ← pk_mul, ← hr9.2, ← hc9.2])
  refine Cn.of' (by decide) (Nat.le_of_ble_eq_true rfl) rfl ?_
  refine v_ald0 dX6_extreme_0 ?_
  refine v_getI dX6_extreme_1 fl_X6_50 (by first | rfl | exact lay_door (by omega) | exact lay_dt (by omega) | exact lay_da (by omega) | exact lay_sh (by omega) | exact lay_se (by omega)) rfl (by omega) ?_
  refine v_if_eq (tgt := 15) dX6_extreme_4 (by decide) (fun h4 => absurd h4 hd1) (fun h4 => ?_)
  refine v_ild1 dX6_extreme_7 ?_
  refine v_ild2 dX6_extreme_8 ?_
  refine v_S2 c_X6_isCell lk_X6_32 dX6_extreme_9 (by decide) (Nat.le_of_ble_eq_true rfl) ?_
  refine v_ifne_b (tgt := 17) dX6_extreme_12 (by decide) (fun h12 => ?_) (fun h12 => absurd ⟨hd2, hd3⟩ h12)
  refine v_ald0 dX6_extreme_17 ?_
  refine v_ild1 dX6_extreme_18 ?_
  refine v_ild2 dX6_extreme_19 ?_
  refine v_V2 c_X6_isHidden lk_X6_60 dX6_extreme_20 (by decide) (Nat.le_of_ble_eq_true rfl) (by first | rfl | exact lay_door (by omega) | exact lay_dt (by omega) | exact lay_da (by omega) | exact lay_sh (by omega) | exact lay_se (by omega)) (show _ < 78 + 3 * _ by omega) ?_
  refine v_ifne_b (tgt := 37) dX6_extreme_23 (by decide) (fun h23 => ?_) (fun h23 => ?_)
  · rw [hidx] at h23
    refine v_ald0 dX6_extreme_37 ?_
    refine v_getP (q := 19) dX6_extreme_38 fl_X6_28 (by first | rfl | exact lay_door (by omega) | exact lay_dt (by omega) | exact lay_da (by omega) | exact lay_sh (by omega) | exact lay_se (by omega)) rfl (by omega) rfl ?_
    refine v_ald0 dX6_extreme_41 ?_
    refine v_getP (q := 17) dX6_extreme_42 fl_X6_15 (by first | rfl | exact lay_door (by omega) | exact lay_dt (by omega) | exact lay_da (by omega) | exact lay_sh (by omega) | exact lay_se (by omega)) rfl (by omega) rfl ?_
    refine v_ald0 dX6_extreme_45 ?_
    refine v_getI dX6_extreme_46 fl_X6_46 (by first | rfl | exact lay_door (by omega) | exact lay_dt (by omega) | exact lay_da (by omega) | exact lay_sh (by omega) | exact lay_se (by omega)) rfl (by omega) ?_
    refine v_ild1 dX6_extreme_49 ?_
    refine v_icN (n := 4) dX6_extreme_50 (by decide) ?_
    refine v_imul dX6_extreme_51 ?_
    refine v_ild2 dX6_extreme_52 ?_
    refine v_iadd dX6_extreme_53 ?_
    refine v_e0 (congrArg Value.int hidx) ?_
    refine v_ild3 dX6_extreme_54 ?_
    refine v_V4p (c_X5_extreme rfl hcl h23 hB hB2 hM) lk_X6_67 dX6_extreme_55 (by decide) (Nat.le_of_ble_eq_true rfl) rfl (show _ < 78 + 3 * _ by omega) (fun r μ₁ h => ?_)
    obtain ⟨J, v, rfl, rfl, hJ, hX⟩ := h
    exact v_retI dX6_extreme_58 trivial ⟨J, v, rfl, rfl, hJ, hX⟩
  · rw [hidx] at h23
    refine v_ald0 dX6_extreme_26 ?_
    refine v_getP (q := 17) dX6_extreme_27 fl_X6_15 (by first | rfl | exact lay_door (by omega) | exact lay_dt (by omega) | exact lay_da (by omega) | exact lay_sh (by omega) | exact lay_se (by omega)) rfl (by omega) rfl ?_
    refine v_ild1 dX6_extreme_30 ?_
    refine v_icN (n := 4) dX6_extreme_31 (by decide) ?_
    refine v_imul dX6_extreme_32 ?_
    refine v_ild2 dX6_extreme_33 ?_
    refine v_iadd dX6_extreme_34 ?_
    refine v_e0 (congrArg Value.int hidx) ?_
    refine v_iald dX6_extreme_35 (by first | rfl | exact lay_door (by omega) | exact lay_dt (by omega) | exact lay_da (by omega) | exact lay_sh (by omega) | exact lay_se (by omega)) (by omega) ⟨rfl, hcl, by decide⟩ ?_
    exact v_retI dX6_extreme_36 trivial ⟨I, M (4 * tn r + tn c), by rw [hM _ hcl], rfl, fun _ _ _ _ _ _ => rfl, XT_told hcl h23⟩

set_option maxRecDepth 4000 in
theorem c_xeN {G : GG} {dc : Nat} {I : Nat → Nat → Int32} {L : Nat → Nat → Int64} {r c w : Int32} (hd : ¬ (¬ I 15 5 = 0 ∧ isC r c)) : Cn G yX6_extreme cX6_extreme 4 (some .int) 5 0 0 [.ref 15, .int r, .int c, .int w] (Mm dc I L) (Is (some (.int (-1))) (Mm dc I L)) := by
  refine Cn.of' (by decide) (Nat.le_of_ble_eq_true rfl) rfl ?_
  refine v_ald0 dX6_extreme_0 ?_
  refine v_getI dX6_extreme_1 fl_X6_50 (by first | rfl | exact lay_door (by omega) | exact lay_dt (by omega) | exact lay_da (by omega) | exact lay_sh (by omega) | exact lay_se (by omega)) rfl (by omega) ?_
  refine v_if_eq (tgt := 15) dX6_extreme_4 (by decide) (fun h4 => ?_) (fun h4 => ?_)
  · refine v_icm1 dX6_extreme_15 ?_
    exact v_retI dX6_extreme_16 trivial ⟨rfl, rfl⟩
  · refine v_ild1 dX6_extreme_7 ?_
    refine v_ild2 dX6_extreme_8 ?_
    refine v_S2 c_X6_isCell lk_X6_32 dX6_extreme_9 (by decide) (Nat.le_of_ble_eq_true rfl) ?_
    refine v_ifne_b (tgt := 17) dX6_extreme_12 (by decide) (fun h12 => ?_) (fun h12 => ?_)
    · exact absurd ⟨h4, h12⟩ hd
    · refine v_icm1 dX6_extreme_15 ?_
      exact v_retI dX6_extreme_16 trivial ⟨rfl, rfl⟩

set_option maxRecDepth 4000 in
theorem c_xcY {G : GG} {dc : Nat} {I : Nat → Nat → Int32} {L : Nat → Nat → Int64} {M : Nat → Nat} {B : Nat} {r c w : Int32} (hd : ¬ I 15 5 = 0 ∧ isC r c) (hB : ∀ v, v < 10 → nS M v ≤ B) (hB2 : B ≤ 50000) (hM : ∀ x, x < 24 → I 17 x = nI (M x)) : Cn G yX8_could cX8_could 4 (some .int) 6 0 0 [.ref 0, .int r, .int c, .int w] (Mm dc I L) (exP dc I L (¬ w = 0) (fun j => sbit (I 15 4) (nI j)) M (4 * tn r + tn c)) := by
  refine Cn.of' (by decide) (Nat.le_of_ble_eq_true rfl) rfl ?_
  refine v_ald0 dX8_could_0 ?_
  refine v_getP (q := 15) dX8_could_1 fl_X8_49 (by first | rfl | exact lay_door (by omega) | exact lay_dt (by omega) | exact lay_da (by omega) | exact lay_sh (by omega) | exact lay_se (by omega)) rfl (by omega) rfl ?_
  refine v_ild1 dX8_could_4 ?_
  refine v_ild2 dX8_could_5 ?_
  refine v_ild3 dX8_could_6 ?_
  refine v_V3p (c_xeY hd hB hB2 hM) lk_X8_284 dX8_could_7 (by decide) (Nat.le_of_ble_eq_true rfl) rfl (show _ < 78 + 3 * _ by omega) (fun r μ₁ h => ?_)
  obtain ⟨J, v, rfl, rfl, hJ, hX⟩ := h
  exact v_retI dX8_could_10 trivial ⟨J, v, rfl, rfl, hJ, hX⟩

set_option maxRecDepth 4000 in
theorem c_xcN {G : GG} {dc : Nat} {I : Nat → Nat → Int32} {L : Nat → Nat → Int64} {r c w : Int32} (hd : ¬ (¬ I 15 5 = 0 ∧ isC r c)) : Cn G yX8_could cX8_could 4 (some .int) 6 0 0 [.ref 0, .int r, .int c, .int w] (Mm dc I L) (Is (some (.int (-1))) (Mm dc I L)) := by
  refine Cn.of' (by decide) (Nat.le_of_ble_eq_true rfl) rfl ?_
  refine v_ald0 dX8_could_0 ?_
  refine v_getP (q := 15) dX8_could_1 fl_X8_49 (by first | rfl | exact lay_door (by omega) | exact lay_dt (by omega) | exact lay_da (by omega) | exact lay_sh (by omega) | exact lay_se (by omega)) rfl (by omega) rfl ?_
  refine v_ild1 dX8_could_4 ?_
  refine v_ild2 dX8_could_5 ?_
  refine v_ild3 dX8_could_6 ?_
  refine v_V3 (c_xeN hd) lk_X8_284 dX8_could_7 (by decide) (Nat.le_of_ble_eq_true rfl) (by first | rfl | exact lay_door (by omega) | exact lay_dt (by omega) | exact lay_da (by omega) | exact lay_sh (by omega) | exact lay_se (by omega)) (show _ < 78 + 3 * _ by omega) ?_
  exact v_retI dX8_could_10 trivial ⟨rfl, rfl⟩

/-! ===== a new door ===== -/
theorem Pc_hi {dc k : Nat} (f : Nat) (h : 78 + 3 * dc ≤ k) : Pc dc k f = none := by
  unfold Pc
  rw [if_neg (by omega), if_neg (by omega), if_neg (by omega), if_neg (by omega)]
theorem Pc_new (dc : Nat) : u2 (u2 (u2 (Pc dc) (78 + 3 * dc) 3 (some (78 + 3 * dc + 1))) (78 + 3 * dc) 4 (some (78 + 3 * dc + 1 + 1))) 2 dc (some (78 + 3 * dc)) = Pc (dc + 1) := by
  funext k f
  by_cases h1 : k = 2
  · subst h1
    by_cases h2 : f = dc
    · subst h2
      rw [u2_s, Pc_d (by omega)]
    · rw [u2_k _ _ _ _ h2, u2_a _ _ _ _ (by omega), u2_a _ _ _ _ (by omega)]
      unfold Pc
      simp only [show (2 : Nat) < 23 from by decide, if_true, show ¬ (2 : Nat) = 1 from by decide, if_false]
      by_cases h3 : f < dc
      · rw [if_pos h3, if_pos (by omega)]
      · rw [if_neg h3, if_neg (by omega)]
  · rw [u2_a _ _ _ _ h1]
    by_cases h2 : k = 78 + 3 * dc
    · subst h2
      by_cases h3 : f = 4
      · subst h3; rw [u2_s, Pc_da (by omega)]
      · rw [u2_k _ _ _ _ h3]
        by_cases h4 : f = 3
        · subst h4; rw [u2_s, Pc_dt (by omega)]
        · rw [u2_k _ _ _ _ h4, Pc_hi _ (Nat.le_refl _)]
          unfold Pc
          rw [if_neg (by omega), if_neg (by omega), if_neg (by omega), if_pos (by omega), if_pos (by omega), if_neg h4, if_neg h3]
    · rw [u2_a _ _ _ _ h2, u2_a _ _ _ _ h2]
      unfold Pc
      by_cases a1 : k < 23
      · rw [if_pos a1, if_pos a1]
        by_cases a2 : k = 1
        · rw [if_pos a2, if_pos a2]
        · rw [if_neg a2, if_neg a2, if_neg h1, if_neg h1]
      · rw [if_neg a1, if_neg a1]
        by_cases a2 : k < 39
        · rw [if_pos a2, if_pos a2]
        · rw [if_neg a2, if_neg a2]
          by_cases a3 : k < 78
          · rw [if_pos a3, if_pos a3]
          · rw [if_neg a3, if_neg a3]
            by_cases a4 : k < 78 + 3 * dc
            · rw [if_pos a4, if_pos (show k < 78 + 3 * (dc + 1) by omega)]
            · rw [if_neg a4]
              by_cases a5 : k < 78 + 3 * (dc + 1)
              · rw [if_pos a5, if_neg (by omega)]
              · rw [if_neg a5]
theorem Mm_new (dc : Nat) (J : Nat → Nat → Int32) (L : Nat → Nat → Int64) : Mm (dc + 1) J L = (78 + 3 * dc + 1 + 1 + 1, J, L, u2 (u2 (u2 (Pc dc) (78 + 3 * dc) 3 (some (78 + 3 * dc + 1))) (78 + 3 * dc) 4 (some (78 + 3 * dc + 1 + 1))) 2 dc (some (78 + 3 * dc))) := by
  rw [Pc_new]
  rfl
def dDoX (dc : Nat) (I : Nat → Nat → Int32) (b l u : Int32) : Nat := if inR b 6 then (if inR l 4 then (if inR u 1024 then (if I 0 9 = 0 then (if dc = 24 then 7 else 0) else 6) else 6) else 6) else 1
def drI (dc : Nat) (I : Nat → Nat → Int32) (b l u : Int32) : Nat → Nat → Int32 := u2 (u2 (u2 (u2 (u2 (u2 (u2 I (78 + 3 * dc) 6 (nI 0)) (78 + 3 * dc) 12 (-1)) (78 + 3 * dc) 13 (-1)) (78 + 3 * dc) 0 b) (78 + 3 * dc) 1 l) (78 + 3 * dc) 2 u) 0 7 (nI (dc + 1))

set_option maxRecDepth 4000 in
theorem c_X8_door {G : GG} {dc : Nat} {I : Nat → Nat → Int32} {L : Nat → Nat → Int64} {b l u : Int32} (hW : Wx dc I) (hz : ∀ x, 78 + 3 * dc ≤ x → ∀ j, I x j = 0 ∧ L x j = 0) : Cn G yX8_door cX8_door 4 (some .int) 2 3 38 [.ref 0, .int b, .int l, .int u] (Mm dc I L) (Is (some (.int (oR (dDoX dc I b l u) (nI dc)))) (oM (dDoX dc I b l u) dc I L (Mm (dc + 1) (drI dc I b l u) L))) := by
  refine Cn.of' (by decide) (Nat.le_of_ble_eq_true rfl) rfl ?_
  refine v_ild1 dX8_door_0 ?_
  refine v_S1 c_X8_isBlock lk_X8_54 dX8_door_1 (by decide) (Nat.le_of_ble_eq_true rfl) ?_
  refine v_ifne_b (tgt := 13) dX8_door_4 (by decide) (fun h4 => ?_) (fun h4 => ?_)
  · refine v_ild2 dX8_door_13 ?_
    refine v_S1 c_X8_isLike lk_X8_62 dX8_door_14 (by decide) (Nat.le_of_ble_eq_true rfl) ?_
    refine v_ifeq_b (tgt := 38) dX8_door_17 (by decide) (fun h17 => ?_) (fun h17 => ?_)
    · refine v_ald0 dX8_door_38 ?_
      refine v_bipush (v := -6) dX8_door_39 (by decide) ?_
      refine v_V1 (c_X8_refuse (k := 6) (by decide) (by decide) (by decide)) lk_X8_58 dX8_door_41 (by decide) (Nat.le_of_ble_eq_true rfl) (by first | rfl | exact lay_door (by omega) | exact lay_dt (by omega) | exact lay_da (by omega) | exact lay_sh (by omega) | exact lay_se (by omega)) (show _ < 78 + 3 * _ by omega) ?_
      exact v_retI dX8_door_44 trivial (by rw [show dDoX dc I b l u = 6 from by unfold dDoX; rw [if_pos h4, if_neg h17]]; exact ⟨rfl, rfl⟩)
    · refine v_ild3 dX8_door_20 ?_
      refine v_if_lt (tgt := 38) dX8_door_21 (by decide) (fun h21 => ?_) (fun h21 => ?_)
      · refine v_ald0 dX8_door_38 ?_
        refine v_bipush (v := -6) dX8_door_39 (by decide) ?_
        refine v_V1 (c_X8_refuse (k := 6) (by decide) (by decide) (by decide)) lk_X8_58 dX8_door_41 (by decide) (Nat.le_of_ble_eq_true rfl) (by first | rfl | exact lay_door (by omega) | exact lay_dt (by omega) | exact lay_da (by omega) | exact lay_sh (by omega) | exact lay_se (by omega)) (show _ < 78 + 3 * _ by omega) ?_
        exact v_retI dX8_door_44 trivial (by rw [show dDoX dc I b l u = 6 from by unfold dDoX; rw [if_pos h4, if_pos h17, if_neg (fun z => z.1 h21)]]; exact ⟨rfl, rfl⟩)
      · refine v_ild3 dX8_door_24 ?_
        refine v_sipush (v := nI 1024) dX8_door_25 (by decide) ?_
        refine v_icmp_ge (tgt := 38) dX8_door_28 (by decide) (fun h28 => ?_) (fun h28 => ?_)
        · refine v_ald0 dX8_door_38 ?_
          refine v_bipush (v := -6) dX8_door_39 (by decide) ?_
          refine v_V1 (c_X8_refuse (k := 6) (by decide) (by decide) (by decide)) lk_X8_58 dX8_door_41 (by decide) (Nat.le_of_ble_eq_true rfl) (by first | rfl | exact lay_door (by omega) | exact lay_dt (by omega) | exact lay_da (by omega) | exact lay_sh (by omega) | exact lay_se (by omega)) (show _ < 78 + 3 * _ by omega) ?_
          exact v_retI dX8_door_44 trivial (by rw [show dDoX dc I b l u = 6 from by unfold dDoX; rw [if_pos h4, if_pos h17, if_neg (fun z => z.2 h28)]]; exact ⟨rfl, rfl⟩)
        · refine v_ald0 dX8_door_31 ?_
          refine v_getI dX8_door_32 fl_X8_65 (by first | rfl | exact lay_door (by omega) | exact lay_dt (by omega) | exact lay_da (by omega) | exact lay_sh (by omega) | exact lay_se (by omega)) rfl (by omega) ?_
          refine v_if_eq (tgt := 45) dX8_door_35 (by decide) (fun h35 => ?_) (fun h35 => ?_)
          · refine v_ald0 dX8_door_45 ?_
            refine v_getI dX8_door_46 fl_X8_69 (by first | rfl | exact lay_door (by omega) | exact lay_dt (by omega) | exact lay_da (by omega) | exact lay_sh (by omega) | exact lay_se (by omega)) rfl (by omega) ?_
            refine v_bipush (v := nI 24) dX8_door_49 (by decide) ?_
            refine v_icmp_lt (tgt := 61) dX8_door_51 (by decide) (fun h51 => ?_) (fun h51 => ?_)
            · have hc9 := hW.1
              have hlt : dc < 24 := (nI_ltI (by omega) (by decide)).mp (by rw [← hW.2.1]; exact h51)
              have h24 : ¬ dc = 24 := by omega
              refine v_ald0 dX8_door_61 ?_
              refine v_getP (q := 2) dX8_door_62 fl_X8_17 (by first | rfl | exact lay_door (by omega) | exact lay_dt (by omega) | exact lay_da (by omega) | exact lay_sh (by omega) | exact lay_se (by omega)) rfl (by omega) rfl ?_
              refine v_ald0 dX8_door_65 ?_
              refine v_getI dX8_door_66 fl_X8_69 (by first | rfl | exact lay_door (by omega) | exact lay_dt (by omega) | exact lay_da (by omega) | exact lay_sh (by omega) | exact lay_se (by omega)) rfl (by omega) ?_
              refine v_e0 (congrArg Value.int hW.2.1) ?_
              refine v_new (n := 78 + 3 * dc) dX8_door_69 cl_X8_15 (lay_door hlt) (fun j => ⟨(hz _ (Nat.le_refl _) j).1, (hz _ (Nat.le_refl _) j).2, Pc_hi _ (Nat.le_refl _)⟩) ?_
              refine v_dupR dX8_door_72 ?_
              refine v_ild1 dX8_door_73 ?_
              refine v_ild2 dX8_door_74 ?_
              refine v_ild3 dX8_door_75 ?_
              refine V.invI (av := [.int b, .int l, .int u]) (o := 78 + 3 * dc) (c_X1_init (a := 78 + 3 * dc) (n := 78 + 3 * dc + 1) (lay_door hlt) (lay_dt hlt) (lay_da hlt) (by omega) (fun x hx j => ⟨(hz x (by omega) j).1, (hz x (by omega) j).2, Pc_hi _ (by omega)⟩)) lk_X8_73 dX8_door_76 (by decide) (Nat.le_of_ble_eq_true rfl) rfl (fun r μ₁ h => ?_)
              obtain ⟨rfl, rfl⟩ := h
              refine V.aast (t := 13) (t0 := 3) (C := RX1) (T := TX1) (ci := 1) rfl rfl (by decide) (by decide) rfl dX8_door_79 rfl (by omega) (lay_door hlt) (by omega) ⟨rfl, hlt, by decide⟩ ?_
              refine v_ald0 dX8_door_80 ?_
              refine v_dupR dX8_door_81 ?_
              refine v_getI dX8_door_82 fl_X8_69 (by first | rfl | exact lay_door (by omega) | exact lay_dt (by omega) | exact lay_da (by omega) | exact lay_sh (by omega) | exact lay_se (by omega)) rfl (by omega) ?_
              refine v_e0 (congrArg Value.int (show _ = nI dc from (u2_a _ _ _ _ (by omega)).trans ((u2_a _ _ _ _ (by omega)).trans ((u2_a _ _ _ _ (by omega)).trans ((u2_a _ _ _ _ (by omega)).trans ((u2_a _ _ _ _ (by omega)).trans ((u2_a _ _ _ _ (by omega)).trans hW.2.1))))))) ?_
              refine v_icN (n := 1) dX8_door_85 (by decide) ?_
              refine v_iadd dX8_door_86 ?_
              refine v_putI dX8_door_87 fl_X8_69 ft_8_7 (by first | rfl | exact lay_door (by omega) | exact lay_dt (by omega) | exact lay_da (by omega) | exact lay_sh (by omega) | exact lay_se (by omega)) rfl (by omega) ?_
              refine v_ald0 dX8_door_90 ?_
              refine v_getI dX8_door_91 fl_X8_69 (by first | rfl | exact lay_door (by omega) | exact lay_dt (by omega) | exact lay_da (by omega) | exact lay_sh (by omega) | exact lay_se (by omega)) rfl (by omega) ?_
              refine v_e0 (congrArg Value.int (show _ = nI dc + nI 1 from u2_s _ _ _ _)) ?_
              refine v_icN (n := 1) dX8_door_94 (by decide) ?_
              refine v_isub dX8_door_95 ?_
              refine v_e0 (congrArg Value.int (show _ = nI dc from by rw [nI_add, pk_sub (by omega)]; exact congrArg nI (by omega))) ?_
              exact v_retI dX8_door_96 trivial (by rw [show dDoX dc I b l u = 0 from by unfold dDoX; rw [if_pos h4, if_pos h17, if_pos ⟨h21, h28⟩, if_pos h35, if_neg h24]]; exact ⟨rfl, by rw [oM0, Mm_new]; exact congrArg (fun z => ((78 + 3 * dc + 1 + 1 + 1, u2 _ 0 7 z, L, _) : Mem)) (nI_1 dc)⟩)
            · have hc9 := hW.1
              have h24 : dc = 24 := Nat.le_antisymm hc9 (Nat.not_lt.mp (fun z => h51 (by rw [hW.2.1]; exact nI_lt z (by decide))))
              refine v_ald0 dX8_door_54 ?_
              refine v_bipush (v := -7) dX8_door_55 (by decide) ?_
              refine v_V1 (c_X8_refuse (k := 7) (by decide) (by decide) (by decide)) lk_X8_58 dX8_door_57 (by decide) (Nat.le_of_ble_eq_true rfl) (by first | rfl | exact lay_door (by omega) | exact lay_dt (by omega) | exact lay_da (by omega) | exact lay_sh (by omega) | exact lay_se (by omega)) (show _ < 78 + 3 * _ by omega) ?_
              exact v_retI dX8_door_60 trivial (by rw [show dDoX dc I b l u = 7 from by unfold dDoX; rw [if_pos h4, if_pos h17, if_pos ⟨h21, h28⟩, if_pos h35, if_pos h24]]; exact ⟨rfl, rfl⟩)
          · refine v_ald0 dX8_door_38 ?_
            refine v_bipush (v := -6) dX8_door_39 (by decide) ?_
            refine v_V1 (c_X8_refuse (k := 6) (by decide) (by decide) (by decide)) lk_X8_58 dX8_door_41 (by decide) (Nat.le_of_ble_eq_true rfl) (by first | rfl | exact lay_door (by omega) | exact lay_dt (by omega) | exact lay_da (by omega) | exact lay_sh (by omega) | exact lay_se (by omega)) (show _ < 78 + 3 * _ by omega) ?_
            exact v_retI dX8_door_44 trivial (by rw [show dDoX dc I b l u = 6 from by unfold dDoX; rw [if_pos h4, if_pos h17, if_pos ⟨h21, h28⟩, if_neg h35]]; exact ⟨rfl, rfl⟩)
  · refine v_ald0 dX8_door_7 ?_
    refine v_icm1 dX8_door_8 ?_
    refine v_V1 (c_X8_refuse (k := 1) (by decide) (by decide) (by decide)) lk_X8_58 dX8_door_9 (by decide) (Nat.le_of_ble_eq_true rfl) (by first | rfl | exact lay_door (by omega) | exact lay_dt (by omega) | exact lay_da (by omega) | exact lay_sh (by omega) | exact lay_se (by omega)) (show _ < 78 + 3 * _ by omega) ?_
    exact v_retI dX8_door_12 trivial (by rw [show dDoX dc I b l u = 1 from by unfold dDoX; rw [if_neg h4]]; exact ⟨rfl, rfl⟩)
