theorem Wm_c {dc : Nat} {I J : Nat → Nat → Int32} (hW : Wm dc I) (h : ∀ x j, (x = 39 ∧ j = 17) ∨ x = 40 ∨ x = 41 ∨ x = 43 ∨ x = 46 ∨ x = 60 ∨ x = 61 ∨ x = 62 → J x j = I x j) : Wm dc J := by
  obtain ⟨h1, h2, h3, h4⟩ := hW
  refine ⟨h1, (h 39 17 (Or.inl ⟨rfl, rfl⟩)).trans h2, fun s hs => ?_, fun d hd => ?_⟩
  · rw [h 62 s (by omega), h 60 s (by omega), h 61 s (by omega)]; exact h3 s hs
  · rw [h 40 d (by omega), h 41 d (by omega), h 43 d (by omega), h 46 d (by omega)]; exact h4 d hd
theorem fstP_c {P Q : List Nat → Prop} [∀ l, Decidable (P l)] [∀ l, Decidable (Q l)] (h : ∀ l, P l ↔ Q l) : ∀ t, fstP P t = fstP Q t
  | [] => rfl
  | l :: t => by
    by_cases hp : P l
    · rw [fstP, if_pos hp, fstP, if_pos ((h l).mp hp)]
    · rw [fstP, if_neg hp, fstP, if_neg (fun z => hp ((h l).mpr z))]
      exact fstP_c h t
theorem agT.hid {I J : Nat → Nat → Int32} (h : agT I J) (n : Nat) (l : List Nat) (c : Nat) : hidL J n l c ↔ hidL I n l c := by
  unfold hidL
  rw [h.sm c]
theorem agT.gd {I J : Nat → Nat → Int32} (h : agT I J) (n : Nat) (l : List Nat) : gdL J n l ↔ gdL I n l := by
  have e : tsafe (smM J) (hidL J n l) (fun c => ¬ J 71 c = 0) ↔ tsafe (smM I) (hidL I n l) (fun c => ¬ I 71 c = 0) := tsafe_c (fun c _ => h.sm c) (fun c _ => h.hid n l c) (fun c _ => by rw [h 71 c (by decide) (by decide) (by decide) (by decide)])
  constructor
  · exact fun z => ⟨fun k hk w => z.1 k hk ((h.sm _).mpr w), e.mp z.2⟩
  · exact fun z => ⟨fun k hk w => z.1 k hk ((h.sm _).mp w), e.mpr z.2⟩
/-- the first number of others that will do, and the set -/
noncomputable def fndT (I : Nat → Nat → Int32) : Nat → Nat → Option (Nat × List Nat)
  | 0, _ => none
  | k + 1, n => match fstP (gdL I n) (cmb n 0 24) with
    | some l => some (n, l)
    | none => fndT I k (n + 1)
def tbQ (dc : Nat) (I : Nat → Nat → Int32) (L : Nat → Nat → Int64) (s : Option (Nat × List Nat)) : Option Value → Mem → Prop := match s with
  | some q => tbP dc I L (nI (ct (fun c => decide (hidL (trI dc I 24) q.1 q.2 c)) 24)) (I 59 6) (nI 1) (trF dc I) (fun c => bI (hidL (trI dc I 24) q.1 q.2 c))
  | none => tbP dc I L (-6) (I 59 6 + nI 1) (I 39 42) (I 70) (I 73)

set_option maxRecDepth 4000 in
theorem lp_tbW {G : GG} {dc : Nat} {I : Nat → Nat → Int32} {L : Nat → Nat → Int64} (k : Nat) : ∀ n, n + k = 5 → ∀ J, agT (trI dc I 24) J → V G yX9_table cX9_table 4 (some .int) 4 0 0 47 [.ref 39, .int (nI n), UU, UU] [] (Mm dc J L) (tbQ dc I L (fndT (trI dc I 24) k n)) := by
  induction k with
  | zero =>
    intro n hn J hJ
    obtain rfl : n = 5 := by omega
    refine v_ild1 dX9_table_47 ?_
    refine v_icN (n := 4) dX9_table_48 (by decide) ?_
    refine v_icmp_gt (tgt := 66) dX9_table_49 (by decide) (fun h49 => ?_) (fun h49 => absurd (show nI 4 < nI 5 by decide) h49)
    refine v_ild1 dX9_table_66 ?_
    refine v_icN (n := 4) dX9_table_67 (by decide) ?_
    refine v_icmp_le (tgt := 78) dX9_table_68 (by decide) (fun h68 => absurd h68 (by decide)) (fun h68 => ?_)
    refine v_ald0 dX9_table_71 ?_
    refine v_bipush (v := -6) dX9_table_72 (by decide) ?_
    refine v_V1 (c_X9_no (k := 6) (by decide) (by decide) (by decide)) lk_X9_146 dX9_table_74 (by decide) (Nat.le_of_ble_eq_true rfl) (by first | rfl | exact lay_door (by omega) | exact lay_dt (by omega) | exact lay_da (by omega) | exact lay_sh (by omega) | exact lay_se (by omega)) (show _ < 78 + 3 * _ by omega) ?_
    exact v_retI dX9_table_77 trivial ⟨_, rfl, rfl, by unfold rms; rw [u2_s, hJ 59 6 (by decide) (by decide) (by decide) (by decide), trI_o _ (by decide)], by unfold rms; rw [u2_a _ _ _ _ (by decide), hJ 39 42 (by decide) (by decide) (by decide) (by decide), trI_o _ (by decide)], fun c hc => ⟨by unfold rms; rw [u2_a _ _ _ _ (by decide), hJ 70 c (by decide) (by decide) (by decide) (by decide), trI_o _ (by decide)], by unfold rms; rw [u2_a _ _ _ _ (by decide), hJ 73 c (by decide) (by decide) (by decide) (by decide), trI_o _ (by decide)]⟩, fun x j h1 h2 h3 h4 h5 h6 h7 h8 h9 => by rw [show rms J 6 x j = J x j from if_neg h8, hJ x j h4 h5 h6 h7, trI_o _ h2]⟩
  | succ k ih =>
    intro n hn J hJ
    refine v_ild1 dX9_table_47 ?_
    refine v_icN (n := 4) dX9_table_48 (by decide) ?_
    refine v_icmp_gt (tgt := 66) dX9_table_49 (by decide) (fun h49 => absurd h49 (nI_nlt (by omega) (by decide))) (fun h49 => ?_)
    refine v_ald0 dX9_table_52 ?_
    refine v_ild1 dX9_table_53 ?_
    refine v_V1p (c_X9_findOthers rfl (by omega)) lk_X9_286 dX9_table_54 (by decide) (Nat.le_of_ble_eq_true rfl) rfl (show _ < 78 + 3 * _ by omega) (fun r μ₁ h => ?_)
    obtain ⟨K, rfl, hK, hm⟩ := h
    have hK1 : agT (trI dc I 24) K := fun x j h1 h2 h3 h4 => (hK x j h1 h2 h3 h4).trans (hJ x j h1 h2 h3 h4)
    rw [fstP_c (fun l => hJ.gd n l)] at hm
    cases hf : fstP (gdL (trI dc I 24) n) (cmb n 0 24) with
    | none =>
      rw [hf] at hm
      obtain rfl := hm
      refine v_if_ne (tgt := 66) dX9_table_57 (by decide) (fun h57 => absurd (show nI 0 = 0 from rfl) h57) (fun h57 => ?_)
      refine v_inc1 dX9_table_60 rfl ?_
      refine v_goto (tgt := 47) dX9_table_63 (by decide) ?_
      rw [nI_1 n]
      have h9 := ih (n + 1) (by omega) K hK1
      rw [show fndT (trI dc I 24) (k + 1) n = fndT (trI dc I 24) k (n + 1) from by rw [fndT, hf]]
      exact h9
    | some l =>
      rw [hf] at hm
      obtain ⟨rfl, hm⟩ : r = some (.int (nI 1)) ∧ ∀ c, c < 24 → K 74 c = bI (hidL J n l c) := hm
      have hc74 : ∀ c, c < 24 → K 74 c = bI (hidL (trI dc I 24) n l c) := fun c hc => (hm c hc).trans (bI_iff' (hJ.hid n l c))
      refine v_if_ne (tgt := 66) dX9_table_57 (by decide) (fun h57 => ?_) (fun h57 => absurd h57 (by decide))
      refine v_ild1 dX9_table_66 ?_
      refine v_icN (n := 4) dX9_table_67 (by decide) ?_
      refine v_icmp_le (tgt := 78) dX9_table_68 (by decide) (fun h68 => ?_) (fun h68 => absurd (nI_le (by omega) (by decide)) h68)
      refine v_icN (n := 0) dX9_table_78 (by decide) ?_
      refine v_ist2 dX9_table_79 rfl ?_
      refine v_icN (n := 0) dX9_table_80 (by decide) ?_
      refine v_ist3 dX9_table_81 rfl ?_
      rw [show fndT (trI dc I 24) (k + 1) n = some (n, l) from by rw [fndT, hf]]
      rw [show Mm dc K L = Mm dc (rf2 (rf2 K 70 0 (K 71)) 73 0 (K 74)) L from by rw [rf2_0, rf2_0]]
      refine lp_tbC (J := K) (fun c hc => by rw [hc74 c hc]; exact bI_01) ?_ 24 0 (by omega)
      have e : ∀ x j, x ≠ 70 → x ≠ 71 → x ≠ 73 → x ≠ 74 → x ≠ 75 → x ≠ 76 → x ≠ 77 → ¬ (x = 39 ∧ j = 42) → u2 (rf2 (rf2 K 70 24 (K 71)) 73 24 (K 74)) 39 42 (nI 1) x j = I x j := fun x j h1 h2 h3 h4 h5 h6 h7 h9 => by
        rw [show u2 (rf2 (rf2 K 70 24 (K 71)) 73 24 (K 74)) 39 42 (nI 1) x j = (rf2 (rf2 K 70 24 (K 71)) 73 24 (K 74)) x j from if_neg h9, rf2_o _ _ _ _ h3, rf2_o _ _ _ _ h1, hK1 x j h4 h5 h6 h7, trI_o _ h2]
      refine v_ald0 dX9_table_135 ?_
      refine v_icN (n := 1) dX9_table_136 (by decide) ?_
      refine v_putZ dX9_table_137 fl_X9_289 ft_9_42 (by first | rfl | exact lay_door (by omega) | exact lay_dt (by omega) | exact lay_da (by omega) | exact lay_sh (by omega) | exact lay_se (by omega)) rfl (by omega) (by first | exact Or.inl rfl | exact Or.inr rfl | exact bI_01) ?_
      refine v_ild2 dX9_table_140 ?_
      exact v_retI dX9_table_141 trivial ⟨_, congrArg (fun z => some (Value.int (nI z))) (ct_cong (fun c hc => by rw [hc74 c hc]; exact decide_eq_decide.mpr bI_n0)), rfl, e 59 6 (by decide) (by decide) (by decide) (by decide) (by decide) (by decide) (by decide) (by omega), u2_s _ _ _ _, fun c hc => ⟨by rw [u2_a _ _ _ _ (by decide), rf2_o _ _ _ _ (by decide), rf2_i _ _ hc, hK1 71 c (by decide) (by decide) (by decide) (by decide), trI_i hc], by rw [u2_a _ _ _ _ (by decide), rf2_i _ _ hc, hc74 c hc]⟩, fun x j h1 h2 h3 h4 h5 h6 h7 _ h9 => e x j h1 h2 h3 h4 h5 h6 h7 h9⟩

set_option maxRecDepth 4000 in
theorem lp_tb1 {G : GG} {dc : Nat} {I : Nat → Nat → Int32} {L : Nat → Nat → Int64} (hW : Wm dc I) (k : Nat) : ∀ i, i + k = 24 → V G yX9_table cX9_table 4 (some .int) 4 0 0 16 [.ref 39, .int (nI i), UU, UU] [] (Mm dc (trI dc I i) L) (tbQ dc I L (fndT (trI dc I 24) 5 0)) := by
  induction k with
  | zero =>
    intro i hi
    refine v_ild1 dX9_table_16 ?_
    refine v_bipush (v := nI 24) dX9_table_17 (by decide) ?_
    refine v_icmp_ge (tgt := 45) dX9_table_19 (by decide) (fun h19 => ?_) (fun h19 => absurd (nI_le (by omega) (by omega)) h19)
    rw [show i = 24 by omega]
    refine v_icN (n := 0) dX9_table_45 (by decide) ?_
    refine v_ist1 dX9_table_46 rfl ?_
    exact lp_tbW 5 0 rfl _ (fun x j _ _ _ _ => rfl)
  | succ k ih =>
    intro i hi
    refine v_ild1 dX9_table_16 ?_
    refine v_bipush (v := nI 24) dX9_table_17 (by decide) ?_
    refine v_icmp_ge (tgt := 45) dX9_table_19 (by decide) (fun h19 => absurd h19 (nI_ge (by omega) (by omega))) (fun h19 => ?_)
    refine v_ald0 dX9_table_22 ?_
    refine v_getP (q := 71) dX9_table_23 fl_X9_118 (by first | rfl | exact lay_door (by omega) | exact lay_dt (by omega) | exact lay_da (by omega) | exact lay_sh (by omega) | exact lay_se (by omega)) rfl (by omega) rfl ?_
    refine v_ild1 dX9_table_26 ?_
    refine v_ald0 dX9_table_27 ?_
    refine v_ild1 dX9_table_28 ?_
    refine v_icN (n := 4) dX9_table_29 (by decide) ?_
    refine v_idiv dX9_table_30 (by decide) ?_
    refine v_e0 (congrArg Value.int (show _ = nI (i / 4) from pk_div (by omega) (by decide) (by decide))) ?_
    refine v_ild1 dX9_table_31 ?_
    refine v_icN (n := 4) dX9_table_32 (by decide) ?_
    refine v_irem dX9_table_33 (by decide) ?_
    refine v_e0 (congrArg Value.int (show _ = nI (i % 4) from pk_rem (by omega) (by decide) (by decide))) ?_
    refine v_icN (n := 1) dX9_table_34 (by decide) ?_
    refine v_V3 (c_X9_counted (Wm_c hW (fun x j h => rf2_o _ _ _ _ (by omega)))) lk_X9_220 dX9_table_35 (by decide) (Nat.le_of_ble_eq_true rfl) (by first | rfl | exact lay_door (by omega) | exact lay_dt (by omega) | exact lay_da (by omega) | exact lay_sh (by omega) | exact lay_se (by omega)) (show _ < 78 + 3 * _ by omega) ?_
    refine v_iast dX9_table_38 (by first | rfl | exact lay_door (by omega) | exact lay_dt (by omega) | exact lay_da (by omega) | exact lay_sh (by omega) | exact lay_se (by omega)) (by omega) ⟨rfl, by omega, by decide⟩ ?_
    rw [show u2 (trI dc I i) 71 i _ = trI dc I (i + 1) from rf2_s _ _ _ _ (tr_c (I := I) (J := trI dc I i) (funext fun j => rf2_o _ _ _ _ (by decide)) (funext fun j => rf2_o _ _ _ _ (by decide)) (funext fun j => rf2_o _ _ _ _ (by decide)) (funext fun j => rf2_o _ _ _ _ (by decide)) (funext fun j => rf2_o _ _ _ _ (by decide)) i)]
    refine v_inc1 dX9_table_39 rfl ?_
    refine v_goto (tgt := 16) dX9_table_42 (by decide) ?_
    rw [nI_1 i]
    exact ih (i + 1) (by omega)

set_option maxRecDepth 4000 in
theorem c_tabY {G : GG} {dc : Nat} {I : Nat → Nat → Int32} {L : Nat → Nat → Int64} (hW : Wm dc I) (hx : ¬ I 39 22 = 0) : Cn G yX9_table cX9_table 4 (some .int) 4 0 0 [.ref 39] (Mm dc I L) (tbQ dc I L (fndT (trI dc I 24) 5 0)) := by
  refine Cn.of' (by decide) (Nat.le_of_ble_eq_true rfl) rfl ?_
  refine v_ald0 dX9_table_0 ?_
  refine v_getI dX9_table_1 fl_X9_158 (by first | rfl | exact lay_door (by omega) | exact lay_dt (by omega) | exact lay_da (by omega) | exact lay_sh (by omega) | exact lay_se (by omega)) rfl (by omega) ?_
  refine v_if_ne (tgt := 14) dX9_table_4 (by decide) (fun h4 => ?_) (fun h4 => absurd h4 hx)
  refine v_icN (n := 0) dX9_table_14 (by decide) ?_
  refine v_ist1 dX9_table_15 rfl ?_
  have h9 := lp_tb1 (G := G) (L := L) hW 24 0 (by omega)
  rw [show trI dc I 0 = I from rf2_0 _ _ _] at h9
  exact h9
