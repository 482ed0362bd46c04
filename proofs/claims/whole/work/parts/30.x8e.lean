def oN : Option Nat → Int32
  | none => -1
  | some j => nI j
def dst (a b : Nat) : Nat := if a < b then b - a else a - b
theorem nI_m1 {n : Nat} (h : n < 2 ^ 31) : ¬ nI n = -1 := fun e => by
  have h1 := nI_toInt h
  rw [e] at h1
  have : (-1 : Int32).toInt = -1 := by decide
  omega
theorem abs_nI {a b : Nat} (ha : a < 2 ^ 30) (hb : b < 2 ^ 30) : (if 0 ≤ nI a - nI b then nI a - nI b else 0 - (nI a - nI b)) = nI (dst a b) := by
  unfold dst
  by_cases h : a < b
  · rw [if_pos h, if_neg (fun q => by
      have q1 := Int32.le_iff_toInt_le.mp q
      rw [pk_sub_toInt ha hb] at q1
      have : (0 : Int32).toInt = 0 := by decide
      omega), ← pk_sub (by omega : a ≤ b)]
    rw [Int32.sub_eq_add_neg, Int32.neg_sub, Int32.zero_add]
  · rw [if_neg h, pk_sub (by omega), if_pos (nI_pos' (by omega))]
/-- the nearest door of those below n that can fill d -/
def fdb (I : Nat → Nat → Int32) (d : Nat) : Nat → Option Nat
  | 0 => none
  | e + 1 => if cfl I e (I (78 + 3 * d) 1) then (match fdb I d e with | none => some e | some q => if dst e d < dst q d then some e else some q) else fdb I d e
theorem fdb_n {I : Nat → Nat → Int32} {d e : Nat} (h : ¬ cfl I e (I (78 + 3 * d) 1)) : fdb I d (e + 1) = fdb I d e := by simp only [fdb]; exact if_neg h
theorem fdb_0 {I : Nat → Nat → Int32} {d e : Nat} (h : cfl I e (I (78 + 3 * d) 1)) (h2 : fdb I d e = none) : fdb I d (e + 1) = some e := by simp only [fdb, h2]; exact if_pos h
theorem fdb_1 {I : Nat → Nat → Int32} {d e q : Nat} (h : cfl I e (I (78 + 3 * d) 1)) (h2 : fdb I d e = some q) (h3 : dst e d < dst q d) : fdb I d (e + 1) = some e := by simp only [fdb, h2, if_pos h3]; exact if_pos h
theorem fdb_2 {I : Nat → Nat → Int32} {d e q : Nat} (h : cfl I e (I (78 + 3 * d) 1)) (h2 : fdb I d e = some q) (h3 : ¬ dst e d < dst q d) : fdb I d (e + 1) = some q := by simp only [fdb, h2, if_neg h3]; exact if_pos h
theorem fdb_s {I : Nat → Nat → Int32} {d : Nat} : ∀ {n q : Nat}, fdb I d n = some q → q < n ∧ cfl I q (I (78 + 3 * d) 1)
  | 0, q, h => by cases h
  | n + 1, q, h => by
    by_cases hc : cfl I n (I (78 + 3 * d) 1)
    · cases hf : fdb I d n with
      | none =>
        rw [fdb_0 hc hf] at h
        cases h
        exact ⟨by omega, hc⟩
      | some w =>
        by_cases h3 : dst n d < dst w d
        · rw [fdb_1 hc hf h3] at h
          cases h
          exact ⟨by omega, hc⟩
        · rw [fdb_2 hc hf h3] at h
          cases h
          have := fdb_s hf
          exact ⟨by omega, this.2⟩
    · rw [fdb_n hc] at h
      have := fdb_s h
      exact ⟨by omega, this.2⟩
theorem oN_m1 {I : Nat → Nat → Int32} {d n : Nat} (hn : n < 1000) (h : oN (fdb I d n) = -1) : fdb I d n = none := by
  cases hf : fdb I d n with
  | none => rfl
  | some q =>
    rw [hf] at h
    exact absurd h (nI_m1 (by have := (fdb_s hf).1; omega))
theorem oN_s {I : Nat → Nat → Int32} {d n : Nat} (h : ¬ oN (fdb I d n) = -1) : ∃ q, fdb I d n = some q := by
  cases hf : fdb I d n with
  | none => rw [hf] at h; exact absurd rfl h
  | some q => exact ⟨q, rfl⟩
/-- a door is filled, if one can -/
def fdI (dc : Nat) (I : Nat → Nat → Int32) (d : Nat) : Nat → Nat → Int32 := match fdb I d dc with
  | none => I
  | some e => thI I d e (hdn I e) (nI e)

set_option maxRecDepth 4000 in
theorem lp_fd {G : GG} {dc : Nat} {I : Nat → Nat → Int32} {L : Nat → Nat → Int64} {d : Nat} (hW : Wx dc I) (hd : d < dc) (h6 : I (78 + 3 * d) 6 = 0) (k : Nat) : ∀ i, i + k = dc → V G yX8_fillDoor cX8_fillDoor 4 (some .boolean) 2 0 0 4 [.ref 0, .int (nI d), .int (oN (fdb I d i)), .int (nI i)] [] (Mm dc I L) (Is (some (.int (bI ((fdb I d dc).isSome = true)))) (Mm dc (fdI dc I d) L)) := by
  induction k with
  | zero =>
    intro i hi
    have hc9 := hW.1
    have h24 : i ≤ dc := by omega
    refine v_ild3 dX8_fillDoor_4 ?_
    refine v_ald0 dX8_fillDoor_5 ?_
    refine v_getI dX8_fillDoor_6 fl_X8_69 (by first | rfl | exact lay_door (by omega) | exact lay_dt (by omega) | exact lay_da (by omega) | exact lay_sh (by omega) | exact lay_se (by omega)) rfl (by omega) ?_
    refine v_icmp_ge (tgt := 64) dX8_fillDoor_9 (by decide) (fun h9 => ?_) (fun h9 => absurd (by rw [hW.2.1]; exact nI_le (by omega) (by omega)) h9)
    refine v_ild2 dX8_fillDoor_64 ?_
    refine v_icm1 dX8_fillDoor_65 ?_
    refine v_icmp_ne (tgt := 71) dX8_fillDoor_66 (by decide) (fun h66 => ?_) (fun h66 => ?_)
    · obtain rfl : i = dc := by omega
      obtain ⟨e9, hf9⟩ := oN_s h66
      have he9 := (fdb_s hf9).1
      have hne9 : e9 ≠ d := fun z => by
        have hq := (fdb_s hf9).2.1; rw [z, h6] at hq; rcases hq with hq | hq; exact absurd hq.1 (by decide); exact absurd hq (by decide)
      rw [show oN (fdb I d i) = nI e9 by rw [hf9]; rfl]
      refine v_ald0 dX8_fillDoor_71 ?_
      refine v_getP (q := 2) dX8_fillDoor_72 fl_X8_17 (by first | rfl | exact lay_door (by omega) | exact lay_dt (by omega) | exact lay_da (by omega) | exact lay_sh (by omega) | exact lay_se (by omega)) rfl (by omega) rfl ?_
      refine v_ild1 dX8_fillDoor_75 ?_
      refine v_aald13 dX8_fillDoor_76 (by first | rfl | exact lay_door (by omega) | exact lay_dt (by omega) | exact lay_da (by omega) | exact lay_sh (by omega) | exact lay_se (by omega)) (by omega) ⟨rfl, by omega, by decide⟩ (Pc_d (by omega)) ?_
      refine v_ald0 dX8_fillDoor_77 ?_
      refine v_getP (q := 2) dX8_fillDoor_78 fl_X8_17 (by first | rfl | exact lay_door (by omega) | exact lay_dt (by omega) | exact lay_da (by omega) | exact lay_sh (by omega) | exact lay_se (by omega)) rfl (by omega) rfl ?_
      refine v_ild2 dX8_fillDoor_81 ?_
      refine v_aald13 dX8_fillDoor_82 (by first | rfl | exact lay_door (by omega) | exact lay_dt (by omega) | exact lay_da (by omega) | exact lay_sh (by omega) | exact lay_se (by omega)) (by omega) ⟨rfl, by omega, by decide⟩ (Pc_d (by omega)) ?_
      refine v_ild2 dX8_fillDoor_83 ?_
      refine v_V2n (c_X1_takeHeadsOf hd hc9 (by have := (fdb_s hf9).1; omega) hne9 (hW.2.2.2 e9 (fdb_s hf9).1).2.2.2.1 (hW.2.2.2 e9 (fdb_s hf9).1).2.2.2.2) lk_X8_316 dX8_fillDoor_84 (by decide) (Nat.le_of_ble_eq_true rfl) (by first | rfl | exact lay_door (by omega) | exact lay_dt (by omega) | exact lay_da (by omega) | exact lay_sh (by omega) | exact lay_se (by omega)) (show _ < 78 + 3 * _ by omega) ?_
      refine v_icN (n := 1) dX8_fillDoor_87 (by decide) ?_
      exact v_retI dX8_fillDoor_88 (by first | exact Or.inl rfl | exact Or.inr rfl | exact bI_01) (by rw [fdI, hf9]; exact ⟨rfl, rfl⟩)
    · refine v_icN (n := 0) dX8_fillDoor_69 (by decide) ?_
      exact v_retI dX8_fillDoor_70 (by first | exact Or.inl rfl | exact Or.inr rfl | exact bI_01) (by obtain rfl : i = dc := (by omega); rw [fdI, oN_m1 (by omega) h66]; exact ⟨rfl, rfl⟩)
  | succ k ih =>
    intro i hi
    have hc9 := hW.1
    have h24 : i ≤ dc := by omega
    refine v_ild3 dX8_fillDoor_4 ?_
    refine v_ald0 dX8_fillDoor_5 ?_
    refine v_getI dX8_fillDoor_6 fl_X8_69 (by first | rfl | exact lay_door (by omega) | exact lay_dt (by omega) | exact lay_da (by omega) | exact lay_sh (by omega) | exact lay_se (by omega)) rfl (by omega) ?_
    refine v_icmp_ge (tgt := 64) dX8_fillDoor_9 (by decide) (fun h9 => absurd h9 (by rw [hW.2.1]; exact nI_ge (by omega) (by omega))) (fun h9 => ?_)
    refine v_ald0 dX8_fillDoor_12 ?_
    refine v_getP (q := 2) dX8_fillDoor_13 fl_X8_17 (by first | rfl | exact lay_door (by omega) | exact lay_dt (by omega) | exact lay_da (by omega) | exact lay_sh (by omega) | exact lay_se (by omega)) rfl (by omega) rfl ?_
    refine v_ild3 dX8_fillDoor_16 ?_
    refine v_aald13 dX8_fillDoor_17 (by first | rfl | exact lay_door (by omega) | exact lay_dt (by omega) | exact lay_da (by omega) | exact lay_sh (by omega) | exact lay_se (by omega)) (by omega) ⟨rfl, by omega, by decide⟩ (Pc_d (by omega)) ?_
    refine v_ald0 dX8_fillDoor_18 ?_
    refine v_getP (q := 2) dX8_fillDoor_19 fl_X8_17 (by first | rfl | exact lay_door (by omega) | exact lay_dt (by omega) | exact lay_da (by omega) | exact lay_sh (by omega) | exact lay_se (by omega)) rfl (by omega) rfl ?_
    refine v_ild1 dX8_fillDoor_22 ?_
    refine v_aald13 dX8_fillDoor_23 (by first | rfl | exact lay_door (by omega) | exact lay_dt (by omega) | exact lay_da (by omega) | exact lay_sh (by omega) | exact lay_se (by omega)) (by omega) ⟨rfl, by omega, by decide⟩ (Pc_d (by omega)) ?_
    refine v_getI dX8_fillDoor_24 fl_X8_178 (by first | rfl | exact lay_door (by omega) | exact lay_dt (by omega) | exact lay_da (by omega) | exact lay_sh (by omega) | exact lay_se (by omega)) rfl (by omega) ?_
    refine v_V1 (c_X1_canFill (by omega) hc9) lk_X8_310 dX8_fillDoor_27 (by decide) (Nat.le_of_ble_eq_true rfl) (by first | rfl | exact lay_door (by omega) | exact lay_dt (by omega) | exact lay_da (by omega) | exact lay_sh (by omega) | exact lay_se (by omega)) (show _ < 78 + 3 * _ by omega) ?_
    refine v_ifne_b (tgt := 36) dX8_fillDoor_30 (by decide) (fun h30 => ?_) (fun h30 => ?_)
    · refine v_ild2 dX8_fillDoor_36 ?_
      refine v_icm1 dX8_fillDoor_37 ?_
      refine v_icmp_eq (tgt := 56) dX8_fillDoor_38 (by decide) (fun h38 => ?_) (fun h38 => ?_)
      · refine v_ild3 dX8_fillDoor_56 ?_
        refine v_ist2 dX8_fillDoor_57 rfl ?_
        refine v_inc3 dX8_fillDoor_58 rfl ?_
        refine v_goto (tgt := 4) dX8_fillDoor_61 (by decide) ?_
        rw [nI_1 i]
        have h9 := ih (i + 1) (by omega)
        rw [fdb_0 h30 (oN_m1 (by omega) h38)] at h9
        exact h9
      · obtain ⟨q9, hq9⟩ := oN_s h38
        have hq8 := (fdb_s hq9).1
        rw [show oN (fdb I d i) = nI q9 by rw [hq9]; rfl]
        refine v_ild3 dX8_fillDoor_41 ?_
        refine v_ild1 dX8_fillDoor_42 ?_
        refine v_isub dX8_fillDoor_43 ?_
        refine v_mabs dX8_fillDoor_44 lj_X8_313 (by decide) (Nat.le_of_ble_eq_true rfl) ?_
        refine v_ild2 dX8_fillDoor_47 ?_
        refine v_ild1 dX8_fillDoor_48 ?_
        refine v_isub dX8_fillDoor_49 ?_
        refine v_mabs dX8_fillDoor_50 lj_X8_313 (by decide) (Nat.le_of_ble_eq_true rfl) ?_
        rw [abs_nI (a := i) (b := d) (by omega) (by omega), abs_nI (a := q9) (b := d) (by omega) (by omega)]
        refine v_icmp_ge (tgt := 58) dX8_fillDoor_53 (by decide) (fun h53 => ?_) (fun h53 => ?_)
        · refine v_inc3 dX8_fillDoor_58 rfl ?_
          refine v_goto (tgt := 4) dX8_fillDoor_61 (by decide) ?_
          rw [nI_1 i]
          have h9 := ih (i + 1) (by omega)
          rw [fdb_2 h30 hq9 (fun z => nI_ge z (by unfold dst; split <;> omega) h53)] at h9
          exact h9
        · refine v_ild3 dX8_fillDoor_56 ?_
          refine v_ist2 dX8_fillDoor_57 rfl ?_
          refine v_inc3 dX8_fillDoor_58 rfl ?_
          refine v_goto (tgt := 4) dX8_fillDoor_61 (by decide) ?_
          rw [nI_1 i]
          have h9 := ih (i + 1) (by omega)
          rw [fdb_1 h30 hq9 (Nat.lt_of_not_le fun z => h53 (nI_le z (by unfold dst; split <;> omega)))] at h9
          exact h9
    · refine v_goto (tgt := 58) dX8_fillDoor_33 (by decide) ?_
      refine v_inc3 dX8_fillDoor_58 rfl ?_
      refine v_goto (tgt := 4) dX8_fillDoor_61 (by decide) ?_
      rw [nI_1 i]
      have h9 := ih (i + 1) (by omega)
      rw [fdb_n h30] at h9
      exact h9

set_option maxRecDepth 4000 in
theorem c_X8_fillDoor {G : GG} {dc : Nat} {I : Nat → Nat → Int32} {L : Nat → Nat → Int64} {d : Nat} (hW : Wx dc I) (hd : d < dc) (h6 : I (78 + 3 * d) 6 = 0) : Cn G yX8_fillDoor cX8_fillDoor 4 (some .boolean) 2 0 0 [.ref 0, .int (nI d)] (Mm dc I L) (Is (some (.int (bI ((fdb I d dc).isSome = true)))) (Mm dc (fdI dc I d) L)) := by
  refine Cn.of' (by decide) (Nat.le_of_ble_eq_true rfl) rfl ?_
  refine v_icm1 dX8_fillDoor_0 ?_
  refine v_ist2 dX8_fillDoor_1 rfl ?_
  refine v_icN (n := 0) dX8_fillDoor_2 (by decide) ?_
  refine v_ist3 dX8_fillDoor_3 rfl ?_
  exact lp_fd hW hd h6 dc 0 (by omega)
