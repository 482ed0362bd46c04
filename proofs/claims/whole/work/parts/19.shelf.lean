set_option maxRecDepth 4000 in
theorem c_X4_hasStretch {G : GG} {dc : Nat} {I : Nat → Nat → Int32} {L : Nat → Nat → Int64} {s : Nat} {i k : Int32} (hs : s < 8) : Cn G yX4_hasStretch cX4_hasStretch 3 (some .boolean) 0 0 0 [.ref (23 + 2 * s), .int i, .int k] (Mm dc I L) (Is (some (.int (bI (¬ i < 0 ∧ ¬ k < 0 ∧ ¬ I (23 + 2 * s) 2 < k ∧ ¬ I (23 + 2 * s) 2 - k < i)))) (Mm dc I L)) := by
  refine Cn.of' (by decide) (Nat.le_of_ble_eq_true rfl) rfl ?_
  refine v_ild1 dX4_hasStretch_0 ?_
  refine v_if_lt (tgt := 30) dX4_hasStretch_1 (by decide) (fun h1 => ?_) (fun h1 => ?_)
  · refine v_icN (n := 0) dX4_hasStretch_30 (by decide) ?_
    exact v_retI dX4_hasStretch_31 (by first | exact Or.inl rfl | exact Or.inr rfl | exact bI_01) (by refine ⟨?_, rfl⟩; simp [bI, *])
  · refine v_ild2 dX4_hasStretch_4 ?_
    refine v_if_lt (tgt := 30) dX4_hasStretch_5 (by decide) (fun h5 => ?_) (fun h5 => ?_)
    · refine v_icN (n := 0) dX4_hasStretch_30 (by decide) ?_
      exact v_retI dX4_hasStretch_31 (by first | exact Or.inl rfl | exact Or.inr rfl | exact bI_01) (by refine ⟨?_, rfl⟩; simp [bI, *])
    · refine v_ild2 dX4_hasStretch_8 ?_
      refine v_ald0 dX4_hasStretch_9 ?_
      refine v_getI dX4_hasStretch_10 fl_X4_22 (by first | rfl | exact lay_door (by omega) | exact lay_dt (by omega) | exact lay_da (by omega) | exact lay_sh (by omega) | exact lay_se (by omega)) rfl (by omega) ?_
      refine v_icmp_gt (tgt := 30) dX4_hasStretch_13 (by decide) (fun h13 => ?_) (fun h13 => ?_)
      · refine v_icN (n := 0) dX4_hasStretch_30 (by decide) ?_
        exact v_retI dX4_hasStretch_31 (by first | exact Or.inl rfl | exact Or.inr rfl | exact bI_01) (by refine ⟨?_, rfl⟩; simp [bI, *])
      · refine v_ild1 dX4_hasStretch_16 ?_
        refine v_ald0 dX4_hasStretch_17 ?_
        refine v_getI dX4_hasStretch_18 fl_X4_22 (by first | rfl | exact lay_door (by omega) | exact lay_dt (by omega) | exact lay_da (by omega) | exact lay_sh (by omega) | exact lay_se (by omega)) rfl (by omega) ?_
        refine v_ild2 dX4_hasStretch_21 ?_
        refine v_isub dX4_hasStretch_22 ?_
        refine v_icmp_gt (tgt := 30) dX4_hasStretch_23 (by decide) (fun h23 => ?_) (fun h23 => ?_)
        · refine v_icN (n := 0) dX4_hasStretch_30 (by decide) ?_
          exact v_retI dX4_hasStretch_31 (by first | exact Or.inl rfl | exact Or.inr rfl | exact bI_01) (by refine ⟨?_, rfl⟩; simp [bI, *])
        · refine v_icN (n := 1) dX4_hasStretch_26 (by decide) ?_
          refine v_goto (tgt := 31) dX4_hasStretch_27 (by decide) ?_
          exact v_retI dX4_hasStretch_31 (by first | exact Or.inl rfl | exact Or.inr rfl | exact bI_01) (by refine ⟨?_, rfl⟩; simp [bI, *])

set_option maxRecDepth 4000 in
theorem c_X4_elementAsInt {G : GG} {dc : Nat} {I : Nat → Nat → Int32} {L : Nat → Nat → Int64} {s : Nat} {i : Int32} (hs : s < 8) {z : Nat} (hz : I (23 + 2 * s) 2 = nI z) (hz2 : z ≤ 30) (hi : ¬ i < 0 ∧ ¬ I (23 + 2 * s) 2 ≤ i) : Cn G yX4_elementAsInt cX4_elementAsInt 2 (some .int) 1 0 0 [.ref (23 + 2 * s), .int i] (Mm dc I L) (Is (some (.int (L (23 + 2 * s + 1) (tn i)).toInt32)) (Mm dc I L)) := by
  refine Cn.of' (by decide) (Nat.le_of_ble_eq_true rfl) rfl ?_
  refine v_ald0 dX4_elementAsInt_0 ?_
  refine v_ild1 dX4_elementAsInt_1 ?_
  refine v_V1 (c_X4_hasElement hs) lk_X4_41 dX4_elementAsInt_2 (by decide) (Nat.le_of_ble_eq_true rfl) (by first | rfl | exact lay_door (by omega) | exact lay_dt (by omega) | exact lay_da (by omega) | exact lay_sh (by omega) | exact lay_se (by omega)) (show _ < 78 + 3 * _ by omega) ?_
  refine v_ifeq_b (tgt := 18) dX4_elementAsInt_5 (by decide) (fun h5 => absurd hi h5) (fun h5 => ?_)
  refine v_ald0 dX4_elementAsInt_8 ?_
  refine v_getP dX4_elementAsInt_9 fl_X4_11 (by first | rfl | exact lay_door (by omega) | exact lay_dt (by omega) | exact lay_da (by omega) | exact lay_sh (by omega) | exact lay_se (by omega)) rfl (by omega) (by first | rfl | exact Pc_d (by omega) | exact Pc_dt (by omega) | exact Pc_da (by omega) | exact Pc_s (by omega) | exact Pc_se (by omega)) ?_
  refine v_ild1 dX4_elementAsInt_12 ?_
  refine v_lald dX4_elementAsInt_13 (by first | rfl | exact lay_door (by omega) | exact lay_dt (by omega) | exact lay_da (by omega) | exact lay_sh (by omega) | exact lay_se (by omega)) (by omega) (ix_le hz hz2 (by decide) hi) ?_
  refine v_l2i dX4_elementAsInt_14 ?_
  refine v_goto (tgt := 19) dX4_elementAsInt_15 (by decide) ?_
  exact v_retI dX4_elementAsInt_19 trivial ⟨rfl, rfl⟩

def lowB (t : Int32) (v : Int64) : Int64 := if t = nI 0 then v.toInt32.toInt8.toInt32.toInt64 else if t = nI 1 then v.toInt32.toInt16.toInt32.toInt64 else if t = nI 2 then v.toInt32.toInt64 else v

set_option maxRecDepth 4000 in
theorem c_X4_lowestBits {G : GG} {dc : Nat} {I : Nat → Nat → Int32} {L : Nat → Nat → Int64} {s : Nat} {v : Int64} (hs : s < 8) : Cn G yX4_lowestBits cX4_lowestBits 3 (some .long) 0 0 0 [.ref (23 + 2 * s), .long v] (Mm dc I L) (Is (some (.long (lowB (I (23 + 2 * s) 1) v))) (Mm dc I L)) := by
  refine Cn.of' (by decide) (Nat.le_of_ble_eq_true rfl) rfl ?_
  refine v_ald0 dX4_lowestBits_0 ?_
  refine v_getI dX4_lowestBits_1 fl_X4_15 (lay_sh hs) rfl (by omega) ?_
  refine v_tab (hi := 2) (tgt := 46) [32, 37, 42] dX4_lowestBits_4 (by decide) (by decide) (by decide) (fun j t hj ht hx => ?_) (fun hx => ?_)
  · rcases (show j = 0 ∨ j = 1 ∨ j = 2 by omega) with rfl | rfl | rfl <;> cases ht
    · refine v_lld1 dX4_lowestBits_32 ?_
      refine v_l2i dX4_lowestBits_33 ?_
      refine v_i2b dX4_lowestBits_34 ?_
      refine v_i2l dX4_lowestBits_35 ?_
      exact v_retL dX4_lowestBits_36 trivial ⟨by rw [hx]; rfl, rfl⟩
    · refine v_lld1 dX4_lowestBits_37 ?_
      refine v_l2i dX4_lowestBits_38 ?_
      refine v_i2s dX4_lowestBits_39 ?_
      refine v_i2l dX4_lowestBits_40 ?_
      exact v_retL dX4_lowestBits_41 trivial ⟨by rw [hx]; rfl, rfl⟩
    · refine v_lld1 dX4_lowestBits_42 ?_
      refine v_l2i dX4_lowestBits_43 ?_
      refine v_i2l dX4_lowestBits_44 ?_
      exact v_retL dX4_lowestBits_45 trivial ⟨by rw [hx]; rfl, rfl⟩
  · refine v_lld1 dX4_lowestBits_46 ?_
    exact v_retL dX4_lowestBits_47 trivial ⟨by rw [lowB, if_neg (hx 0 (by decide)), if_neg (hx 1 (by decide)), if_neg (hx 2 (by decide))], rfl⟩

set_option maxRecDepth 4000 in
theorem c_X4_putElement {G : GG} {dc : Nat} {I : Nat → Nat → Int32} {L : Nat → Nat → Int64} {s : Nat} {i : Int32} {v : Int64} (hs : s < 8) {z : Nat} (hz : I (23 + 2 * s) 2 = nI z) (hz2 : z ≤ 30) (hi : ¬ i < 0 ∧ ¬ I (23 + 2 * s) 2 ≤ i) : Cn G yX4_putElement cX4_putElement 4 none 1 0 0 [.ref (23 + 2 * s), .int i, .long v] (Mm dc I L) (Is none (Mm dc I (u2 L (23 + 2 * s + 1) (tn i) (lowB (I (23 + 2 * s) 1) v)))) := by
  refine Cn.of' (by decide) (Nat.le_of_ble_eq_true rfl) rfl ?_
  refine v_ald0 dX4_putElement_0 ?_
  refine v_ild1 dX4_putElement_1 ?_
  refine v_V1 (c_X4_hasElement hs) lk_X4_41 dX4_putElement_2 (by decide) (Nat.le_of_ble_eq_true rfl) (by first | rfl | exact lay_door (by omega) | exact lay_dt (by omega) | exact lay_da (by omega) | exact lay_sh (by omega) | exact lay_se (by omega)) (show _ < 78 + 3 * _ by omega) ?_
  refine v_ifeq_b (tgt := 19) dX4_putElement_5 (by decide) (fun h5 => absurd hi h5) (fun h5 => ?_)
  refine v_ald0 dX4_putElement_8 ?_
  refine v_getP dX4_putElement_9 fl_X4_11 (by first | rfl | exact lay_door (by omega) | exact lay_dt (by omega) | exact lay_da (by omega) | exact lay_sh (by omega) | exact lay_se (by omega)) rfl (by omega) (by first | rfl | exact Pc_d (by omega) | exact Pc_dt (by omega) | exact Pc_da (by omega) | exact Pc_s (by omega) | exact Pc_se (by omega)) ?_
  refine v_ild1 dX4_putElement_12 ?_
  refine v_ald0 dX4_putElement_13 ?_
  refine v_lld2 dX4_putElement_14 ?_
  refine v_V1 (c_X4_lowestBits hs) lk_X4_45 dX4_putElement_15 (by decide) (Nat.le_of_ble_eq_true rfl) (by first | rfl | exact lay_door (by omega) | exact lay_dt (by omega) | exact lay_da (by omega) | exact lay_sh (by omega) | exact lay_se (by omega)) (show _ < 78 + 3 * _ by omega) ?_
  refine v_last dX4_putElement_18 (by first | rfl | exact lay_door (by omega) | exact lay_dt (by omega) | exact lay_da (by omega) | exact lay_sh (by omega) | exact lay_se (by omega)) (by omega) (ix_le hz hz2 (by decide) hi) ?_
  exact v_retV dX4_putElement_19 trivial ⟨rfl, rfl⟩

/-- an age, or none told: x, and whether the element is the least one -/
def ageOf (c : Prop) [Decidable c] (x : Int32) : Int32 := if c ∨ x < 0 ∨ ¬ x ≤ nI 110 then -2 else x
theorem lcmp0 {a b : Int64} : lg_cmp a b = 0 ↔ a = b := by
  unfold lg_cmp
  by_cases h : a > b
  · rw [if_pos h]
    exact ⟨fun q => absurd q (by decide), fun q => by subst q; exact (Int64.lt_irrefl h).elim⟩
  · rw [if_neg h]
    by_cases h2 : a = b
    · rw [if_pos h2]; exact ⟨fun _ => h2, fun _ => rfl⟩
    · rw [if_neg h2]; exact ⟨fun q => absurd q (by decide), fun q => absurd q h2⟩

set_option maxRecDepth 4000 in
theorem c_X4_elementAsAge {G : GG} {dc : Nat} {I : Nat → Nat → Int32} {L : Nat → Nat → Int64} {s : Nat} {i : Int32} (hs : s < 8) {z : Nat} (hz : I (23 + 2 * s) 2 = nI z) (hz2 : z ≤ 30) (hi : ¬ i < 0 ∧ ¬ I (23 + 2 * s) 2 ≤ i) : Cn G yX4_elementAsAge cX4_elementAsAge 4 (some .int) 2 0 0 [.ref (23 + 2 * s), .int i] (Mm dc I L) (Is (some (.int (ageOf (L (23 + 2 * s + 1) (tn i) = -9223372036854775808) (L (23 + 2 * s + 1) (tn i)).toInt32))) (Mm dc I L)) := by
  refine Cn.of' (by decide) (Nat.le_of_ble_eq_true rfl) rfl ?_
  refine v_ald0 dX4_elementAsAge_0 ?_
  refine v_ild1 dX4_elementAsAge_1 ?_
  refine v_V1 (c_X4_elementAsInt hs hz hz2 hi) lk_X4_49 dX4_elementAsAge_2 (by decide) (Nat.le_of_ble_eq_true rfl) (by first | rfl | exact lay_door (by omega) | exact lay_dt (by omega) | exact lay_da (by omega) | exact lay_sh (by omega) | exact lay_se (by omega)) (show _ < 78 + 3 * _ by omega) ?_
  refine v_ist2 dX4_elementAsAge_5 rfl ?_
  refine v_ald0 dX4_elementAsAge_6 ?_
  refine v_ild1 dX4_elementAsAge_7 ?_
  refine v_V1 (c_X4_hasElement hs) lk_X4_41 dX4_elementAsAge_8 (by decide) (Nat.le_of_ble_eq_true rfl) (by first | rfl | exact lay_door (by omega) | exact lay_dt (by omega) | exact lay_da (by omega) | exact lay_sh (by omega) | exact lay_se (by omega)) (show _ < 78 + 3 * _ by omega) ?_
  refine v_ifeq_b (tgt := 31) dX4_elementAsAge_11 (by decide) (fun h11 => absurd hi h11) (fun h11 => ?_)
  refine v_ald0 dX4_elementAsAge_14 ?_
  refine v_getP dX4_elementAsAge_15 fl_X4_11 (by first | rfl | exact lay_door (by omega) | exact lay_dt (by omega) | exact lay_da (by omega) | exact lay_sh (by omega) | exact lay_se (by omega)) rfl (by omega) (by first | rfl | exact Pc_d (by omega) | exact Pc_dt (by omega) | exact Pc_da (by omega) | exact Pc_s (by omega) | exact Pc_se (by omega)) ?_
  refine v_ild1 dX4_elementAsAge_18 ?_
  refine v_lald dX4_elementAsAge_19 (by first | rfl | exact lay_door (by omega) | exact lay_dt (by omega) | exact lay_da (by omega) | exact lay_sh (by omega) | exact lay_se (by omega)) (by omega) (ix_le hz hz2 (by decide) hi) ?_
  refine v_ldc2 dX4_elementAsAge_20 kc_X4_55 ?_
  refine v_lcmp dX4_elementAsAge_23 ?_
  refine v_if_ne (tgt := 31) dX4_elementAsAge_24 (by decide) (fun h24 => ?_) (fun h24 => ?_)
  · refine v_icN (n := 0) dX4_elementAsAge_31 (by decide) ?_
    refine v_ist3 dX4_elementAsAge_32 rfl ?_
    refine v_ild3 dX4_elementAsAge_33 ?_
    refine v_if_ne (tgt := 47) dX4_elementAsAge_34 (by decide) (fun h34 => ?_) (fun h34 => ?_)
    · refine v_bipush (v := -2) dX4_elementAsAge_47 (by decide) ?_
      refine v_goto (tgt := 53) dX4_elementAsAge_49 (by decide) ?_
      exact v_retI dX4_elementAsAge_53 trivial (by refine ⟨?_, rfl⟩; first | (exact absurd rfl h34) | (exact absurd h34 (by decide)) | (have e24 := lcmp0.mp h24; rw [ageOf, if_pos (Or.inl e24)]) | (have e24 := fun q => h24 (lcmp0.mpr q); first | (rw [ageOf, if_pos (Or.inr (Or.inl h38))]) | (rw [ageOf, if_pos (Or.inr (Or.inr h44))]) | (rw [ageOf, if_neg (fun q => q.elim e24 (fun q => q.elim h38 (fun q => q h44)))])))
    · refine v_ild2 dX4_elementAsAge_37 ?_
      refine v_if_lt (tgt := 47) dX4_elementAsAge_38 (by decide) (fun h38 => ?_) (fun h38 => ?_)
      · refine v_bipush (v := -2) dX4_elementAsAge_47 (by decide) ?_
        refine v_goto (tgt := 53) dX4_elementAsAge_49 (by decide) ?_
        exact v_retI dX4_elementAsAge_53 trivial (by refine ⟨?_, rfl⟩; first | (exact absurd rfl h34) | (exact absurd h34 (by decide)) | (have e24 := lcmp0.mp h24; rw [ageOf, if_pos (Or.inl e24)]) | (have e24 := fun q => h24 (lcmp0.mpr q); first | (rw [ageOf, if_pos (Or.inr (Or.inl h38))]) | (rw [ageOf, if_pos (Or.inr (Or.inr h44))]) | (rw [ageOf, if_neg (fun q => q.elim e24 (fun q => q.elim h38 (fun q => q h44)))])))
      · refine v_ild2 dX4_elementAsAge_41 ?_
        refine v_bipush (v := nI 110) dX4_elementAsAge_42 (by decide) ?_
        refine v_icmp_le (tgt := 52) dX4_elementAsAge_44 (by decide) (fun h44 => ?_) (fun h44 => ?_)
        · refine v_ild2 dX4_elementAsAge_52 ?_
          exact v_retI dX4_elementAsAge_53 trivial (by refine ⟨?_, rfl⟩; first | (exact absurd rfl h34) | (exact absurd h34 (by decide)) | (have e24 := lcmp0.mp h24; rw [ageOf, if_pos (Or.inl e24)]) | (have e24 := fun q => h24 (lcmp0.mpr q); first | (rw [ageOf, if_pos (Or.inr (Or.inl h38))]) | (rw [ageOf, if_pos (Or.inr (Or.inr h44))]) | (rw [ageOf, if_neg (fun q => q.elim e24 (fun q => q.elim h38 (fun q => q h44)))])))
        · refine v_bipush (v := -2) dX4_elementAsAge_47 (by decide) ?_
          refine v_goto (tgt := 53) dX4_elementAsAge_49 (by decide) ?_
          exact v_retI dX4_elementAsAge_53 trivial (by refine ⟨?_, rfl⟩; first | (exact absurd rfl h34) | (exact absurd h34 (by decide)) | (have e24 := lcmp0.mp h24; rw [ageOf, if_pos (Or.inl e24)]) | (have e24 := fun q => h24 (lcmp0.mpr q); first | (rw [ageOf, if_pos (Or.inr (Or.inl h38))]) | (rw [ageOf, if_pos (Or.inr (Or.inr h44))]) | (rw [ageOf, if_neg (fun q => q.elim e24 (fun q => q.elim h38 (fun q => q h44)))])))
  · refine v_icN (n := 1) dX4_elementAsAge_27 (by decide) ?_
    refine v_goto (tgt := 32) dX4_elementAsAge_28 (by decide) ?_
    refine v_ist3 dX4_elementAsAge_32 rfl ?_
    refine v_ild3 dX4_elementAsAge_33 ?_
    refine v_if_ne (tgt := 47) dX4_elementAsAge_34 (by decide) (fun h34 => ?_) (fun h34 => ?_)
    · refine v_bipush (v := -2) dX4_elementAsAge_47 (by decide) ?_
      refine v_goto (tgt := 53) dX4_elementAsAge_49 (by decide) ?_
      exact v_retI dX4_elementAsAge_53 trivial (by refine ⟨?_, rfl⟩; first | (exact absurd rfl h34) | (exact absurd h34 (by decide)) | (have e24 := lcmp0.mp h24; rw [ageOf, if_pos (Or.inl e24)]) | (have e24 := fun q => h24 (lcmp0.mpr q); first | (rw [ageOf, if_pos (Or.inr (Or.inl h38))]) | (rw [ageOf, if_pos (Or.inr (Or.inr h44))]) | (rw [ageOf, if_neg (fun q => q.elim e24 (fun q => q.elim h38 (fun q => q h44)))])))
    · refine v_ild2 dX4_elementAsAge_37 ?_
      refine v_if_lt (tgt := 47) dX4_elementAsAge_38 (by decide) (fun h38 => ?_) (fun h38 => ?_)
      · refine v_bipush (v := -2) dX4_elementAsAge_47 (by decide) ?_
        refine v_goto (tgt := 53) dX4_elementAsAge_49 (by decide) ?_
        exact v_retI dX4_elementAsAge_53 trivial (by refine ⟨?_, rfl⟩; first | (exact absurd rfl h34) | (exact absurd h34 (by decide)) | (have e24 := lcmp0.mp h24; rw [ageOf, if_pos (Or.inl e24)]) | (have e24 := fun q => h24 (lcmp0.mpr q); first | (rw [ageOf, if_pos (Or.inr (Or.inl h38))]) | (rw [ageOf, if_pos (Or.inr (Or.inr h44))]) | (rw [ageOf, if_neg (fun q => q.elim e24 (fun q => q.elim h38 (fun q => q h44)))])))
      · refine v_ild2 dX4_elementAsAge_41 ?_
        refine v_bipush (v := nI 110) dX4_elementAsAge_42 (by decide) ?_
        refine v_icmp_le (tgt := 52) dX4_elementAsAge_44 (by decide) (fun h44 => ?_) (fun h44 => ?_)
        · refine v_ild2 dX4_elementAsAge_52 ?_
          exact v_retI dX4_elementAsAge_53 trivial (by refine ⟨?_, rfl⟩; first | (exact absurd rfl h34) | (exact absurd h34 (by decide)) | (have e24 := lcmp0.mp h24; rw [ageOf, if_pos (Or.inl e24)]) | (have e24 := fun q => h24 (lcmp0.mpr q); first | (rw [ageOf, if_pos (Or.inr (Or.inl h38))]) | (rw [ageOf, if_pos (Or.inr (Or.inr h44))]) | (rw [ageOf, if_neg (fun q => q.elim e24 (fun q => q.elim h38 (fun q => q h44)))])))
        · refine v_bipush (v := -2) dX4_elementAsAge_47 (by decide) ?_
          refine v_goto (tgt := 53) dX4_elementAsAge_49 (by decide) ?_
          exact v_retI dX4_elementAsAge_53 trivial (by refine ⟨?_, rfl⟩; first | (exact absurd rfl h34) | (exact absurd h34 (by decide)) | (have e24 := lcmp0.mp h24; rw [ageOf, if_pos (Or.inl e24)]) | (have e24 := fun q => h24 (lcmp0.mpr q); first | (rw [ageOf, if_pos (Or.inr (Or.inl h38))]) | (rw [ageOf, if_pos (Or.inr (Or.inr h44))]) | (rw [ageOf, if_neg (fun q => q.elim e24 (fun q => q.elim h38 (fun q => q h44)))])))

/-- the JDK's count of bits -/
def bc32 (x : Int32) : Int32 :=
  let u (a : Int32) (k : Nat) : Int32 := (a.toUInt32 >>> ((nI k).toUInt32 &&& Int32.toUInt32 31)).toInt32
  let a := x - (u x 1 &&& 1431655765)
  let b := (a &&& 858993459) + (u a 2 &&& 858993459)
  let c := (b + u b 4) &&& 252645135
  let d := c + u c 8
  (d + u d 16) &&& nI 63

set_option maxRecDepth 4000 in
theorem c_J6_bitCount_0f7a4 {G : GG} {μ : Mem} {x : Int32} : Cn G yJ6_bitCount_0f7a4 cJ6_bitCount_0f7a4 1 (some .int) 0 0 0 [.int x] μ (Is (some (.int (bc32 x))) μ) := by
  refine Cn.of' (by decide) (Nat.le_of_ble_eq_true rfl) rfl ?_
  refine v_ild0 dJ6_bitCount_0f7a4_0 ?_
  refine v_ild0 dJ6_bitCount_0f7a4_1 ?_
  refine v_icN (n := 1) dJ6_bitCount_0f7a4_2 (by decide) ?_
  refine v_iushr dJ6_bitCount_0f7a4_3 ?_
  refine v_ldcw dJ6_bitCount_0f7a4_4 kc_J6_265 ?_
  refine v_iand dJ6_bitCount_0f7a4_7 ?_
  refine v_isub dJ6_bitCount_0f7a4_8 ?_
  refine v_ist0 dJ6_bitCount_0f7a4_9 ?_
  refine v_ild0 dJ6_bitCount_0f7a4_10 ?_
  refine v_ldcw dJ6_bitCount_0f7a4_11 kc_J6_266 ?_
  refine v_iand dJ6_bitCount_0f7a4_14 ?_
  refine v_ild0 dJ6_bitCount_0f7a4_15 ?_
  refine v_icN (n := 2) dJ6_bitCount_0f7a4_16 (by decide) ?_
  refine v_iushr dJ6_bitCount_0f7a4_17 ?_
  refine v_ldcw dJ6_bitCount_0f7a4_18 kc_J6_266 ?_
  refine v_iand dJ6_bitCount_0f7a4_21 ?_
  refine v_iadd dJ6_bitCount_0f7a4_22 ?_
  refine v_ist0 dJ6_bitCount_0f7a4_23 ?_
  refine v_ild0 dJ6_bitCount_0f7a4_24 ?_
  refine v_ild0 dJ6_bitCount_0f7a4_25 ?_
  refine v_icN (n := 4) dJ6_bitCount_0f7a4_26 (by decide) ?_
  refine v_iushr dJ6_bitCount_0f7a4_27 ?_
  refine v_iadd dJ6_bitCount_0f7a4_28 ?_
  refine v_ldcw dJ6_bitCount_0f7a4_29 kc_J6_267 ?_
  refine v_iand dJ6_bitCount_0f7a4_32 ?_
  refine v_ist0 dJ6_bitCount_0f7a4_33 ?_
  refine v_ild0 dJ6_bitCount_0f7a4_34 ?_
  refine v_ild0 dJ6_bitCount_0f7a4_35 ?_
  refine v_bipush (v := nI 8) dJ6_bitCount_0f7a4_36 (by decide) ?_
  refine v_iushr dJ6_bitCount_0f7a4_38 ?_
  refine v_iadd dJ6_bitCount_0f7a4_39 ?_
  refine v_ist0 dJ6_bitCount_0f7a4_40 ?_
  refine v_ild0 dJ6_bitCount_0f7a4_41 ?_
  refine v_ild0 dJ6_bitCount_0f7a4_42 ?_
  refine v_bipush (v := nI 16) dJ6_bitCount_0f7a4_43 (by decide) ?_
  refine v_iushr dJ6_bitCount_0f7a4_45 ?_
  refine v_iadd dJ6_bitCount_0f7a4_46 ?_
  refine v_ist0 dJ6_bitCount_0f7a4_47 ?_
  refine v_ild0 dJ6_bitCount_0f7a4_48 ?_
  refine v_bipush (v := nI 63) dJ6_bitCount_0f7a4_49 (by decide) ?_
  refine v_iand dJ6_bitCount_0f7a4_51 ?_
  exact v_retI dJ6_bitCount_0f7a4_52 trivial ⟨rfl, rfl⟩
