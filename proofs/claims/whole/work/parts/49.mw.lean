/-! ===== the model's walks ===== -/
/-- the walks of the first i blocks -/
def wU (r : Nat → Nat) : Nat → Nat
  | 0 => 0
  | i + 1 => if r i + 1 ≤ wU r i then wU r i else r i + 1
theorem wU_le {r : Nat → Nat} {N : Nat} : ∀ {i : Nat}, (∀ j, j < i → r j < N) → wU r i ≤ N
  | 0, _ => Nat.zero_le _
  | i + 1, h => by
    have := wU_le (i := i) (fun j hj => h j (by omega))
    have := h i (by omega)
    simp only [wU]
    split <;> omega
/-- the strings and the blocks of the model's cut -/
def Wk (n : Nat) (J : Nat → Nat → Int32) (r : Nat → Nat) : Prop := ∀ i, i < n → J 66 i = nI (r i) ∧ r i < 100

set_option maxRecDepth 4000 in
theorem lp_wut {G : GG} {dc : Nat} {J : Nat → Nat → Int32} {L : Nat → Nat → Int64} {r : Nat → Nat} {n : Nat} (hn : n ≤ 6) (hr : Wk n J r) (k : Nat) : ∀ i, i + k = n → V G yX9_walksUpTo cX9_walksUpTo 4 (some .int) 0 0 0 4 [.ref 39, .int (nI n), .int (nI (wU r i)), .int (nI i)] [] (Mm dc J L) (Is (some (.int (nI (wU r n)))) (Mm dc J L)) := by
  induction k with
  | zero =>
    intro i hi
    refine v_ild3 dX9_walksUpTo_4 ?_
    refine v_ild1 dX9_walksUpTo_5 ?_
    refine v_icmp_ge (tgt := 40) dX9_walksUpTo_6 (by decide) (fun h6 => ?_) (fun h6 => absurd (nI_le (by omega) (by omega)) h6)
    refine v_ild2 dX9_walksUpTo_40 ?_
    exact v_retI dX9_walksUpTo_41 trivial (by rw [show i = n by omega]; exact ⟨rfl, rfl⟩)
  | succ k ih =>
    intro i hi
    refine v_ild3 dX9_walksUpTo_4 ?_
    refine v_ild1 dX9_walksUpTo_5 ?_
    refine v_icmp_ge (tgt := 40) dX9_walksUpTo_6 (by decide) (fun h6 => absurd h6 (nI_ge (by omega) (by omega))) (fun h6 => ?_)
    refine v_ald0 dX9_walksUpTo_9 ?_
    refine v_getP (q := 66) dX9_walksUpTo_10 fl_X9_103 (by first | rfl | exact lay_door (by omega) | exact lay_dt (by omega) | exact lay_da (by omega) | exact lay_sh (by omega) | exact lay_se (by omega)) rfl (by omega) rfl ?_
    refine v_ild3 dX9_walksUpTo_13 ?_
    refine v_iald dX9_walksUpTo_14 (by first | rfl | exact lay_door (by omega) | exact lay_dt (by omega) | exact lay_da (by omega) | exact lay_sh (by omega) | exact lay_se (by omega)) (by omega) ⟨rfl, by omega, by decide⟩ ?_
    refine v_icN (n := 1) dX9_walksUpTo_15 (by decide) ?_
    refine v_iadd dX9_walksUpTo_16 ?_
    refine v_e0 (congrArg Value.int (show _ = nI (r i + 1) from by rw [(hr i (by omega)).1, nI_add])) ?_
    have hl9 := (hr i (by omega)).2
    have hw9 := wU_le (r := r) (N := 100) (i := i) (fun j hj => (hr j (by omega)).2)
    have e18 : nI (r i + 1) ≤ nI (wU r i) ↔ r i + 1 ≤ wU r i := nI_leI (by omega) (by omega)
    refine v_ild2 dX9_walksUpTo_17 ?_
    refine v_icmp_le (tgt := 32) dX9_walksUpTo_18 (by decide) (fun h18 => ?_) (fun h18 => ?_)
    · refine v_ild2 dX9_walksUpTo_32 ?_
      refine v_ist2 dX9_walksUpTo_33 rfl ?_
      refine v_inc3 dX9_walksUpTo_34 rfl ?_
      refine v_goto (tgt := 4) dX9_walksUpTo_37 (by decide) ?_
      have e9 : wU r (i + 1) = wU r i := if_pos (e18.mp h18)
      have h9 := ih (i + 1) (by omega)
      rw [e9] at h9
      rw [nI_1 i]
      exact h9
    · refine v_ald0 dX9_walksUpTo_21 ?_
      refine v_getP (q := 66) dX9_walksUpTo_22 fl_X9_103 (by first | rfl | exact lay_door (by omega) | exact lay_dt (by omega) | exact lay_da (by omega) | exact lay_sh (by omega) | exact lay_se (by omega)) rfl (by omega) rfl ?_
      refine v_ild3 dX9_walksUpTo_25 ?_
      refine v_iald dX9_walksUpTo_26 (by first | rfl | exact lay_door (by omega) | exact lay_dt (by omega) | exact lay_da (by omega) | exact lay_sh (by omega) | exact lay_se (by omega)) (by omega) ⟨rfl, by omega, by decide⟩ ?_
      refine v_icN (n := 1) dX9_walksUpTo_27 (by decide) ?_
      refine v_iadd dX9_walksUpTo_28 ?_
      refine v_e0 (congrArg Value.int (show _ = nI (r i + 1) from by rw [(hr i (by omega)).1, nI_add])) ?_
      refine v_goto (tgt := 33) dX9_walksUpTo_29 (by decide) ?_
      refine v_ist2 dX9_walksUpTo_33 rfl ?_
      refine v_inc3 dX9_walksUpTo_34 rfl ?_
      refine v_goto (tgt := 4) dX9_walksUpTo_37 (by decide) ?_
      have e9 : wU r (i + 1) = r i + 1 := if_neg (fun z => h18 (e18.mpr z))
      have h9 := ih (i + 1) (by omega)
      rw [e9] at h9
      rw [nI_1 i]
      exact h9

set_option maxRecDepth 4000 in
theorem c_X9_walksUpTo {G : GG} {dc : Nat} {J : Nat → Nat → Int32} {L : Nat → Nat → Int64} {x : Int32} {r : Nat → Nat} {n : Nat} (hx : x = nI n) (hn : n ≤ 6) (hr : Wk n J r) : Cn G yX9_walksUpTo cX9_walksUpTo 4 (some .int) 0 0 0 [.ref 39, .int x] (Mm dc J L) (Is (some (.int (nI (wU r n)))) (Mm dc J L)) := by
  subst hx
  refine Cn.of' (by decide) (Nat.le_of_ble_eq_true rfl) rfl ?_
  refine v_icN (n := 0) dX9_walksUpTo_0 (by decide) ?_
  refine v_ist2 dX9_walksUpTo_1 rfl ?_
  refine v_icN (n := 0) dX9_walksUpTo_2 (by decide) ?_
  refine v_ist3 dX9_walksUpTo_3 rfl ?_
  exact lp_wut hn hr n 0 (by omega)

def nw (r : Nat → Nat) : Nat → Nat
  | 0 => 0
  | i + 1 => if r (i + 1) = wU r (i + 1) then nw r i else i + 1
theorem nw_le (r : Nat → Nat) : ∀ i, nw r i ≤ i
  | 0 => Nat.le_refl 0
  | i + 1 => by
    have := nw_le r i
    simp only [nw]
    split <;> omega
def nxJ (J : Nat → Nat → Int32) (r : Nat → Nat) (n i : Nat) : Nat → Nat → Int32 := if i = 0 then J else gr2 (u2 J 66 i (nI (r i + 1))) 66 (i + 1) (n - (i + 1)) (fun _ => nI 0)

set_option maxRecDepth 4000 in
theorem lp_nwz {G : GG} {dc : Nat} {J : Nat → Nat → Int32} {L : Nat → Nat → Int64} {r : Nat → Nat} {n : Nat} {q : Nat} (hn : n ≤ 6) (hnn : J 39 36 = nI n) (hr : Wk n J r) (hq : q < n) (k : Nat) : ∀ i, i + k = n - (q + 1) → V G yX9_nextWalks cX9_nextWalks 3 (some .boolean) 1 0 0 51 [.ref 39, .int (nI q), .int (nI (q + 1 + i))] [] (Mm dc (gr2 (u2 J 66 q (nI (r q + 1))) 66 (q + 1) (i) (fun _ => nI 0)) L) (Is (some (.int (nI 1))) (Mm dc (gr2 (u2 J 66 q (nI (r q + 1))) 66 (q + 1) (n - (q + 1)) (fun _ => nI 0)) L)) := by
  induction k with
  | zero =>
    intro i hi
    refine v_ild2 dX9_nextWalks_51 ?_
    refine v_ald0 dX9_nextWalks_52 ?_
    refine v_getI dX9_nextWalks_53 fl_X9_224 (by first | rfl | exact lay_door (by omega) | exact lay_dt (by omega) | exact lay_da (by omega) | exact lay_sh (by omega) | exact lay_se (by omega)) rfl (by omega) ?_
    refine v_e0 (congrArg Value.int (show _ = nI n from hnn)) ?_
    refine v_icmp_ge (tgt := 72) dX9_nextWalks_56 (by decide) (fun h56 => ?_) (fun h56 => absurd (nI_le (by omega) (by omega)) h56)
    refine v_icN (n := 1) dX9_nextWalks_72 (by decide) ?_
    exact v_retI dX9_nextWalks_73 (by first | exact Or.inl rfl | exact Or.inr rfl | exact bI_01) (by rw [show i = n - (q + 1) by omega]; exact ⟨rfl, rfl⟩)
  | succ k ih =>
    intro i hi
    refine v_ild2 dX9_nextWalks_51 ?_
    refine v_ald0 dX9_nextWalks_52 ?_
    refine v_getI dX9_nextWalks_53 fl_X9_224 (by first | rfl | exact lay_door (by omega) | exact lay_dt (by omega) | exact lay_da (by omega) | exact lay_sh (by omega) | exact lay_se (by omega)) rfl (by omega) ?_
    refine v_e0 (congrArg Value.int (show _ = nI n from hnn)) ?_
    refine v_icmp_ge (tgt := 72) dX9_nextWalks_56 (by decide) (fun h56 => absurd h56 (nI_ge (by omega) (by omega))) (fun h56 => ?_)
    refine v_ald0 dX9_nextWalks_59 ?_
    refine v_getP (q := 66) dX9_nextWalks_60 fl_X9_103 (by first | rfl | exact lay_door (by omega) | exact lay_dt (by omega) | exact lay_da (by omega) | exact lay_sh (by omega) | exact lay_se (by omega)) rfl (by omega) rfl ?_
    refine v_ild2 dX9_nextWalks_63 ?_
    refine v_icN (n := 0) dX9_nextWalks_64 (by decide) ?_
    refine v_iast dX9_nextWalks_65 (by first | rfl | exact lay_door (by omega) | exact lay_dt (by omega) | exact lay_da (by omega) | exact lay_sh (by omega) | exact lay_se (by omega)) (by omega) ⟨rfl, by omega, by decide⟩ ?_
    refine v_inc2 dX9_nextWalks_66 rfl ?_
    refine v_goto (tgt := 51) dX9_nextWalks_69 (by decide) ?_
    rw [gr2_s _ _ _ _ _ rfl, nI_1 (q + 1 + i)]
    exact ih (i + 1) (by omega)

set_option maxRecDepth 4000 in
theorem lp_nwE {G : GG} {dc : Nat} {J : Nat → Nat → Int32} {L : Nat → Nat → Int64} {r : Nat → Nat} {n : Nat} {i : Nat} (hn : n ≤ 6) (hnn : J 39 36 = nI n) (hr : Wk n J r) (hi : i < n) : V G yX9_nextWalks cX9_nextWalks 3 (some .boolean) 1 0 0 31 [.ref 39, .int (nI i), UU] [] (Mm dc J L) (Is (some (.int (if i = 0 then nI 0 else nI 1))) (Mm dc (nxJ J r n i) L)) := by
  refine v_ild1 dX9_nextWalks_31 ?_
  refine v_if_gt (tgt := 37) dX9_nextWalks_32 (by decide) (fun h32 => ?_) (fun h32 => ?_)
  · refine v_ald0 dX9_nextWalks_37 ?_
    refine v_getP (q := 66) dX9_nextWalks_38 fl_X9_103 (by first | rfl | exact lay_door (by omega) | exact lay_dt (by omega) | exact lay_da (by omega) | exact lay_sh (by omega) | exact lay_se (by omega)) rfl (by omega) rfl ?_
    refine v_ild1 dX9_nextWalks_41 ?_
    refine v_dup2 dX9_nextWalks_42 ?_
    refine v_iald dX9_nextWalks_43 (by first | rfl | exact lay_door (by omega) | exact lay_dt (by omega) | exact lay_da (by omega) | exact lay_sh (by omega) | exact lay_se (by omega)) (by omega) ⟨rfl, by omega, by decide⟩ ?_
    refine v_icN (n := 1) dX9_nextWalks_44 (by decide) ?_
    refine v_iadd dX9_nextWalks_45 ?_
    refine v_e0 (congrArg Value.int (show _ = nI (r i + 1) from by rw [(hr i (by omega)).1, nI_add])) ?_
    refine v_iast dX9_nextWalks_46 (by first | rfl | exact lay_door (by omega) | exact lay_dt (by omega) | exact lay_da (by omega) | exact lay_sh (by omega) | exact lay_se (by omega)) (by omega) ⟨rfl, by omega, by decide⟩ ?_
    refine v_ild1 dX9_nextWalks_47 ?_
    refine v_icN (n := 1) dX9_nextWalks_48 (by decide) ?_
    refine v_iadd dX9_nextWalks_49 ?_
    refine v_ist2 dX9_nextWalks_50 rfl ?_
    have hi0 : i ≠ 0 := fun q => by subst q; exact absurd h32 (by decide)
    rw [if_neg hi0, nxJ, if_neg hi0, nI_add]
    have h9 := lp_nwz (G := G) (dc := dc) (L := L) hn hnn hr hi (n - (i + 1)) 0 (by omega)
    rw [gr2_0] at h9
    exact h9
  · refine v_icN (n := 0) dX9_nextWalks_35 (by decide) ?_
    exact v_retI dX9_nextWalks_36 (by first | exact Or.inl rfl | exact Or.inr rfl | exact bI_01) (by have hi0 : i = 0 := Classical.byContradiction fun q => h32 (nI_lt (a := 0) (Nat.pos_of_ne_zero q) (by omega)); rw [if_pos hi0, nxJ, if_pos hi0]; exact ⟨rfl, rfl⟩)

set_option maxRecDepth 4000 in
theorem lp_nws {G : GG} {dc : Nat} {J : Nat → Nat → Int32} {L : Nat → Nat → Int64} {r : Nat → Nat} {n : Nat} (hn : n ≤ 6) (hnn : J 39 36 = nI n) (hr : Wk n J r) : ∀ i, i < n → V G yX9_nextWalks cX9_nextWalks 3 (some .boolean) 1 0 0 7 [.ref 39, .int (nI i), UU] [] (Mm dc J L) (Is (some (.int (if nw r i = 0 then nI 0 else nI 1))) (Mm dc (nxJ J r n (nw r i)) L)) := by
  intro i
  induction i with
  | zero =>
    intro hi
    refine v_ild1 dX9_nextWalks_7 ?_
    refine v_if_le (tgt := 31) dX9_nextWalks_8 (by decide) (fun h8 => ?_) (fun h8 => absurd (show nI 0 ≤ 0 from by decide) h8)
    exact lp_nwE hn hnn hr hi
  | succ i ih =>
    intro hi
    refine v_ild1 dX9_nextWalks_7 ?_
    refine v_if_le (tgt := 31) dX9_nextWalks_8 (by decide) (fun h8 => absurd h8 (nI_nle (by omega) (by omega))) (fun h8 => ?_)
    refine v_ald0 dX9_nextWalks_11 ?_
    refine v_getP (q := 66) dX9_nextWalks_12 fl_X9_103 (by first | rfl | exact lay_door (by omega) | exact lay_dt (by omega) | exact lay_da (by omega) | exact lay_sh (by omega) | exact lay_se (by omega)) rfl (by omega) rfl ?_
    refine v_ild1 dX9_nextWalks_15 ?_
    refine v_iald dX9_nextWalks_16 (by first | rfl | exact lay_door (by omega) | exact lay_dt (by omega) | exact lay_da (by omega) | exact lay_sh (by omega) | exact lay_se (by omega)) (by omega) ⟨rfl, by omega, by decide⟩ ?_
    refine v_ald0 dX9_nextWalks_17 ?_
    refine v_ild1 dX9_nextWalks_18 ?_
    refine v_V1 (c_X9_walksUpTo (r := r) rfl (by omega) (fun j hj => hr j (by omega))) lk_X9_230 dX9_nextWalks_19 (by decide) (Nat.le_of_ble_eq_true rfl) (by first | rfl | exact lay_door (by omega) | exact lay_dt (by omega) | exact lay_da (by omega) | exact lay_sh (by omega) | exact lay_se (by omega)) (show _ < 78 + 3 * _ by omega) ?_
    refine v_icmp_ne (tgt := 31) dX9_nextWalks_22 (by decide) (fun h22 => ?_) (fun h22 => ?_)
    · have e9 : nw r (i + 1) = i + 1 := if_neg (fun z => h22 (by rw [(hr (i + 1) hi).1, z]))
      rw [e9]
      exact lp_nwE hn hnn hr hi
    · refine v_incm1 dX9_nextWalks_25 rfl ?_
      refine v_goto (tgt := 7) dX9_nextWalks_28 (by decide) ?_
      have hw9 := wU_le (r := r) (N := 100) (i := i + 1) (fun j hj => (hr j (by omega)).2)
      have hl9 := (hr (i + 1) hi).2
      have e9 : nw r (i + 1) = nw r i := if_pos ((nI_eq (by omega) (by omega)).mp ((hr (i + 1) hi).1.symm.trans h22))
      rw [e9, pk_m1 i]
      exact ih (by omega)

set_option maxRecDepth 4000 in
theorem c_X9_nextWalks {G : GG} {dc : Nat} {J : Nat → Nat → Int32} {L : Nat → Nat → Int64} {r : Nat → Nat} {n : Nat} (hn : n ≤ 6) (hnn : J 39 36 = nI n) (hr : Wk n J r) (h1 : 1 ≤ n) : Cn G yX9_nextWalks cX9_nextWalks 3 (some .boolean) 1 0 0 [.ref 39] (Mm dc J L) (Is (some (.int (if nw r (n - 1) = 0 then nI 0 else nI 1))) (Mm dc (nxJ J r n (nw r (n - 1))) L)) := by
  refine Cn.of' (by decide) (Nat.le_of_ble_eq_true rfl) rfl ?_
  refine v_ald0 dX9_nextWalks_0 ?_
  refine v_getI dX9_nextWalks_1 fl_X9_224 (by first | rfl | exact lay_door (by omega) | exact lay_dt (by omega) | exact lay_da (by omega) | exact lay_sh (by omega) | exact lay_se (by omega)) rfl (by omega) ?_
  refine v_icN (n := 1) dX9_nextWalks_4 (by decide) ?_
  refine v_isub dX9_nextWalks_5 ?_
  refine v_e0 (congrArg Value.int (show _ = nI (n - 1) from by rw [hnn, pk_sub h1])) ?_
  refine v_ist1 dX9_nextWalks_6 rfl ?_
  exact lp_nws hn hnn hr (n - 1) (by omega)

/-- the model's blocks -/
def Wb (n : Nat) (J : Nat → Nat → Int32) (wk : Nat → Nat) : Prop := ∀ i, i < n → J 65 i = nI (wk i) ∧ wk i < 6
abbrev nrM (J : Nat → Nat → Int32) (wk : Nat → Nat) (i j : Nat) : Prop := ¬ J 54 (6 * wk i + wk j) = 0
def clH (J : Nat → Nat → Int32) (wk : Nat → Nat) (n : Nat) (A T : Nat → Prop) : Prop := ∀ i j, i < n → j < n → T i → A j → nrM J wk i j → T j
def lowH (A T : Nat → Prop) : Prop := ∀ j, A j → (∀ i, i < j → ¬ A i) → T j
/-! the blocks of walk w hang together: hgP -/
/-- any proposition as a decidable one -/
noncomputable def cB (P : Prop) : Bool := @decide P (Classical.propDecidable P)
abbrev cP (P : Prop) : Prop := cB P = true
theorem cP_iff {P : Prop} : cP P ↔ P := by
  unfold cP cB
  exact @decide_eq_true_iff P (Classical.propDecidable P)
def hgP0 (J : Nat → Nat → Int32) (wk : Nat → Nat) (n : Nat) (A : Nat → Prop) : Prop := ∀ T : Nat → Prop, lowH A T → clH J wk n A T → ∀ j, A j → T j
abbrev hgP (J : Nat → Nat → Int32) (wk : Nat → Nat) (n : Nat) (A : Nat → Prop) : Prop := cP (hgP0 J wk n A)
abbrev inW (r : Nat → Nat) (n w j : Nat) : Prop := j < n ∧ r j = w
/-- what is met: of the walk, the lowest with it, and all of it in every closed set -/
def HI (J : Nat → Nat → Int32) (wk : Nat → Nat) (n : Nat) (A : Nat → Prop) (m : Int32) : Prop := (∀ j, gb m j = true → A j) ∧ lowH A (fun j => gb m j = true) ∧ ∀ T : Nat → Prop, lowH A T → clH J wk n A T → ∀ j, gb m j = true → T j
def PD (J : Nat → Nat → Int32) (wk : Nat → Nat) (n : Nat) (A : Nat → Prop) (b m : Int32) (i j : Nat) : Prop := (∀ k, gb b k = true → gb m k = true) ∧ ∀ i' j', (i' < i ∨ (i' = i ∧ j' < j)) → i' < n → j' < n → gb b i' = true → A j' → nrM J wk i' j' → gb m j' = true
theorem HI_or {J : Nat → Nat → Int32} {wk : Nat → Nat} {n : Nat} {A : Nat → Prop} {m : Int32} {i j : Nat} (h : HI J wk n A m) (hi : gb m i = true) (hA : A j) (hn : nrM J wk i j) (hi6 : i < n) (hj6 : j < n) (hn6 : n ≤ 6) : HI J wk n A (m ||| (nI 1 <<< (nI j &&& 31))) := by
  have e : ∀ k, gb (m ||| (nI 1 <<< (nI j &&& 31))) k = true → gb m k = true ∨ k = j := fun k hk => by
    by_cases h32 : k < 32
    · rw [or_set (by omega) h32, Bool.or_eq_true] at hk
      exact hk.imp id of_decide_eq_true
    · rw [gb_hi (by omega)] at hk; cases hk
  refine ⟨fun k hk => (e k hk).elim (h.1 k) (fun q => q ▸ hA), fun k hk hl => ?_, fun T hT hc k hk => ?_⟩
  · show gb _ k = true
    rw [gb_or, h.2.1 k hk hl]; rfl
  · rcases e k hk with q | q
    · exact h.2.2 T hT hc k q
    · subst q; exact hc i k hi6 hj6 (h.2.2 T hT hc i hi) hA hn
theorem PD_j {J : Nat → Nat → Int32} {wk : Nat → Nat} {n : Nat} {A : Nat → Prop} {b m m' : Int32} {i j : Nat} (h : PD J wk n A b m i j) (hs : ∀ k, gb m k = true → gb m' k = true) (hx : gb b i = true → A j → nrM J wk i j → gb m' j = true) : PD J wk n A b m' i (j + 1) := by
  refine ⟨fun k hk => hs k (h.1 k hk), fun i' j' ho h1 h2 h3 h4 h5 => ?_⟩
  by_cases e : i' = i ∧ j' = j
  · obtain ⟨rfl, rfl⟩ := e; exact hx h3 h4 h5
  · exact hs _ (h.2 i' j' (by omega) h1 h2 h3 h4 h5)
theorem PD_i {J : Nat → Nat → Int32} {wk : Nat → Nat} {n : Nat} {A : Nat → Prop} {b m : Int32} {i : Nat} (h : PD J wk n A b m i n) : PD J wk n A b m (i + 1) 0 :=
  ⟨h.1, fun i' j' ho h1 h2 h3 h4 h5 => h.2 i' j' (by omega) h1 h2 h3 h4 h5⟩
/-- how many are met -/
abbrev cm (n : Nat) (m : Int32) : Nat := ct (fun j => gb m j) n
theorem ct_lt {p q : Nat → Bool} : ∀ {n k : Nat}, (∀ j, p j = true → q j = true) → k < n → p k = false → q k = true → ct p n < ct q n
  | 0, k, _, hk, _, _ => by omega
  | n + 1, k, h, hk, h1, h2 => by
    have mono : ∀ n, ct p n ≤ ct q n := fun n => by
      induction n with
      | zero => exact Nat.le_refl _
      | succ n ih =>
        simp only [ct]
        cases hp : p n with
        | true => rw [h n hp]; omega
        | false => cases q n <;> simp <;> omega
    by_cases e : k = n
    · subst e
      rw [ct_f h1, ct_t h2]
      have := mono k
      omega
    · have ih := ct_lt (n := n) (k := k) h (by omega) h1 h2
      simp only [ct]
      cases hp : p n with
      | true => rw [h n hp]; simp; omega
      | false => cases q n <;> simp <;> omega

set_option maxRecDepth 4000 in
theorem lp_hgJ {G : GG} {dc : Nat} {J : Nat → Nat → Int32} {L : Nat → Nat → Int64} {r : Nat → Nat} {n : Nat} {wk : Nat → Nat} {w : Nat} {a b : Int32} {i : Nat} {Q : Option Value → Mem → Prop} (hn : n ≤ 6) (hnn : J 39 36 = nI n) (hr : Wk n J r) (hb : Wb n J wk) (ha : ∀ j, gb a j = true ↔ (inW r n w) j) (hi : i < n) (hk9 : ∀ m, HI J wk n (inW r n w) m → PD J wk n (inW r n w) b m i n → V G yX9_hangs cX9_hangs 8 (some .boolean) 0 0 0 143 [.ref 39, .int (nI w), .int m, .int a, .int (nI 1), .int b, .int (nI i), .int (nI n)] [] (Mm dc J L) Q) (k : Nat) : ∀ j, j + k = n → ∀ m, HI J wk n (inW r n w) m → PD J wk n (inW r n w) b m i j → V G yX9_hangs cX9_hangs 8 (some .boolean) 0 0 0 75 [.ref 39, .int (nI w), .int m, .int a, .int (nI 1), .int b, .int (nI i), .int (nI j)] [] (Mm dc J L) Q := by
  induction k with
  | zero =>
    intro j hj m hI hP
    refine v_ild7 dX9_hangs_75 ?_
    refine v_ald0 dX9_hangs_77 ?_
    refine v_getI dX9_hangs_78 fl_X9_224 (by first | rfl | exact lay_door (by omega) | exact lay_dt (by omega) | exact lay_da (by omega) | exact lay_sh (by omega) | exact lay_se (by omega)) rfl (by omega) ?_
    refine v_e0 (congrArg Value.int (show _ = nI n from hnn)) ?_
    refine v_icmp_ge (tgt := 143) dX9_hangs_81 (by decide) (fun h81 => ?_) (fun h81 => absurd (nI_le (by omega) (by omega)) h81)
    obtain rfl : j = n := by omega
    exact hk9 _ hI hP
  | succ k ih =>
    intro j hj m hI hP
    refine v_ild7 dX9_hangs_75 ?_
    refine v_ald0 dX9_hangs_77 ?_
    refine v_getI dX9_hangs_78 fl_X9_224 (by first | rfl | exact lay_door (by omega) | exact lay_dt (by omega) | exact lay_da (by omega) | exact lay_sh (by omega) | exact lay_se (by omega)) rfl (by omega) ?_
    refine v_e0 (congrArg Value.int (show _ = nI n from hnn)) ?_
    refine v_icmp_ge (tgt := 143) dX9_hangs_81 (by decide) (fun h81 => absurd h81 (nI_ge (by omega) (by omega))) (fun h81 => ?_)
    refine v_ild2 dX9_hangs_84 ?_
    refine v_ild6 dX9_hangs_85 ?_
    refine v_ishr dX9_hangs_87 ?_
    refine v_icN (n := 1) dX9_hangs_88 (by decide) ?_
    refine v_iand dX9_hangs_89 ?_
    refine v_icN (n := 1) dX9_hangs_90 (by decide) ?_
    refine v_icmp_ne (tgt := 137) dX9_hangs_91 (by decide) (fun h91 => ?_) (fun h91 => ?_)
    · refine v_inc7 dX9_hangs_137 rfl ?_
      refine v_goto (tgt := 75) dX9_hangs_140 (by decide) ?_
      rw [nI_1 j]
      refine ih (j + 1) (by omega) _ hI (PD_j hP (fun k hk => hk) (fun z _ _ => absurd ((sb1_iff (by omega)).mpr (hP.1 i z)) h91))
    · refine v_ild3 dX9_hangs_94 ?_
      refine v_ild7 dX9_hangs_95 ?_
      refine v_ishr dX9_hangs_97 ?_
      refine v_icN (n := 1) dX9_hangs_98 (by decide) ?_
      refine v_iand dX9_hangs_99 ?_
      refine v_icN (n := 1) dX9_hangs_100 (by decide) ?_
      refine v_icmp_ne (tgt := 137) dX9_hangs_101 (by decide) (fun h101 => ?_) (fun h101 => ?_)
      · refine v_inc7 dX9_hangs_137 rfl ?_
        refine v_goto (tgt := 75) dX9_hangs_140 (by decide) ?_
        rw [nI_1 j]
        refine ih (j + 1) (by omega) _ hI (PD_j hP (fun k hk => hk) (fun _ z _ => absurd ((sb1_iff (by omega)).mpr ((ha j).mpr z)) h101))
      · have hwi := hb i hi
        have hwj := hb j (by omega)
        refine v_ald0 dX9_hangs_104 ?_
        refine v_getP (q := 54) dX9_hangs_105 fl_X9_53 (by first | rfl | exact lay_door (by omega) | exact lay_dt (by omega) | exact lay_da (by omega) | exact lay_sh (by omega) | exact lay_se (by omega)) rfl (by omega) rfl ?_
        refine v_bipush (v := nI 6) dX9_hangs_108 (by decide) ?_
        refine v_ald0 dX9_hangs_110 ?_
        refine v_getP (q := 65) dX9_hangs_111 fl_X9_100 (by first | rfl | exact lay_door (by omega) | exact lay_dt (by omega) | exact lay_da (by omega) | exact lay_sh (by omega) | exact lay_se (by omega)) rfl (by omega) rfl ?_
        refine v_ild6 dX9_hangs_114 ?_
        refine v_iald dX9_hangs_116 (by first | rfl | exact lay_door (by omega) | exact lay_dt (by omega) | exact lay_da (by omega) | exact lay_sh (by omega) | exact lay_se (by omega)) (by omega) ⟨rfl, by omega, by decide⟩ ?_
        refine v_imul dX9_hangs_117 ?_
        refine v_ald0 dX9_hangs_118 ?_
        refine v_getP (q := 65) dX9_hangs_119 fl_X9_100 (by first | rfl | exact lay_door (by omega) | exact lay_dt (by omega) | exact lay_da (by omega) | exact lay_sh (by omega) | exact lay_se (by omega)) rfl (by omega) rfl ?_
        refine v_ild7 dX9_hangs_122 ?_
        refine v_iald dX9_hangs_124 (by first | rfl | exact lay_door (by omega) | exact lay_dt (by omega) | exact lay_da (by omega) | exact lay_sh (by omega) | exact lay_se (by omega)) (by omega) ⟨rfl, by omega, by decide⟩ ?_
        refine v_iadd dX9_hangs_125 ?_
        refine v_zald dX9_hangs_126 (by first | rfl | exact lay_door (by omega) | exact lay_dt (by omega) | exact lay_da (by omega) | exact lay_sh (by omega) | exact lay_se (by omega)) (by omega) (ix_mul hwi.1 hwj.1 (by omega) (by decide)) ?_
        refine v_if_eq (tgt := 137) dX9_hangs_127 (by decide) (fun h127 => ?_) (fun h127 => ?_)
        · refine v_inc7 dX9_hangs_137 rfl ?_
          refine v_goto (tgt := 75) dX9_hangs_140 (by decide) ?_
          rw [nI_1 j]
          refine ih (j + 1) (by omega) _ hI (PD_j hP (fun k hk => hk) (fun _ _ z => absurd h127 z))
        · refine v_ild2 dX9_hangs_130 ?_
          refine v_icN (n := 1) dX9_hangs_131 (by decide) ?_
          refine v_ild7 dX9_hangs_132 ?_
          refine v_ishl dX9_hangs_134 ?_
          refine v_ior dX9_hangs_135 ?_
          refine v_ist2 dX9_hangs_136 rfl ?_
          refine v_inc7 dX9_hangs_137 rfl ?_
          refine v_goto (tgt := 75) dX9_hangs_140 (by decide) ?_
          rw [nI_1 j]
          refine ih (j + 1) (by omega) _ (HI_or hI ((sb1_iff (by omega)).mp h91) ((ha j).mp ((sb1_iff (by omega)).mp h101)) h127 hi (by omega) hn) (PD_j hP (fun k hk => by rw [gb_or, hk]; rfl) (fun _ _ _ => by rw [or_set (by omega) (by omega), decide_eq_true rfl, Bool.or_true]))

set_option maxRecDepth 4000 in
theorem lp_hgI {G : GG} {dc : Nat} {J : Nat → Nat → Int32} {L : Nat → Nat → Int64} {r : Nat → Nat} {n : Nat} {wk : Nat → Nat} {w : Nat} {a b : Int32} {Q : Option Value → Mem → Prop} (hn : n ≤ 6) (hnn : J 39 36 = nI n) (hr : Wk n J r) (hb : Wb n J wk) (ha : ∀ j, gb a j = true ↔ (inW r n w) j) (hk9 : ∀ m u, HI J wk n (inW r n w) m → PD J wk n (inW r n w) b m n 0 → V G yX9_hangs cX9_hangs 8 (some .boolean) 0 0 0 149 [.ref 39, .int (nI w), .int m, .int a, .int (nI 1), .int b, .int (nI n), u] [] (Mm dc J L) Q) (k : Nat) : ∀ i, i + k = n → ∀ m (u : Value), HI J wk n (inW r n w) m → PD J wk n (inW r n w) b m i 0 → V G yX9_hangs cX9_hangs 8 (some .boolean) 0 0 0 63 [.ref 39, .int (nI w), .int m, .int a, .int (nI 1), .int b, .int (nI i), u] [] (Mm dc J L) Q := by
  induction k with
  | zero =>
    intro i hi m u hI hP
    refine v_ild6 dX9_hangs_63 ?_
    refine v_ald0 dX9_hangs_65 ?_
    refine v_getI dX9_hangs_66 fl_X9_224 (by first | rfl | exact lay_door (by omega) | exact lay_dt (by omega) | exact lay_da (by omega) | exact lay_sh (by omega) | exact lay_se (by omega)) rfl (by omega) ?_
    refine v_e0 (congrArg Value.int (show _ = nI n from hnn)) ?_
    refine v_icmp_ge (tgt := 149) dX9_hangs_69 (by decide) (fun h69 => ?_) (fun h69 => absurd (nI_le (by omega) (by omega)) h69)
    obtain rfl : i = n := by omega
    exact hk9 _ _ hI hP
  | succ k ih =>
    intro i hi m u hI hP
    refine v_ild6 dX9_hangs_63 ?_
    refine v_ald0 dX9_hangs_65 ?_
    refine v_getI dX9_hangs_66 fl_X9_224 (by first | rfl | exact lay_door (by omega) | exact lay_dt (by omega) | exact lay_da (by omega) | exact lay_sh (by omega) | exact lay_se (by omega)) rfl (by omega) ?_
    refine v_e0 (congrArg Value.int (show _ = nI n from hnn)) ?_
    refine v_icmp_ge (tgt := 149) dX9_hangs_69 (by decide) (fun h69 => absurd h69 (nI_ge (by omega) (by omega))) (fun h69 => ?_)
    refine v_icN (n := 0) dX9_hangs_72 (by decide) ?_
    refine v_ist7 dX9_hangs_73 rfl ?_
    refine lp_hgJ hn hnn hr hb ha (by omega) (fun m1 hI1 hP1 => ?_) n 0 (by omega) m hI hP
    refine v_inc6 dX9_hangs_143 rfl ?_
    refine v_goto (tgt := 63) dX9_hangs_146 (by decide) ?_
    rw [nI_1 i]
    exact ih (i + 1) (by omega) m1 _ hI1 (PD_i hP1)

set_option maxRecDepth 4000 in
theorem lp_hgE {G : GG} {dc : Nat} {J : Nat → Nat → Int32} {L : Nat → Nat → Int64} {r : Nat → Nat} {n : Nat} {wk : Nat → Nat} {w : Nat} {a m : Int32} {u v x : Value} (ha : ∀ j, gb a j = true ↔ (inW r n w) j) (hI : HI J wk n (inW r n w) m) (hcl : clH J wk n (inW r n w) (fun j => gb m j = true)) : V G yX9_hangs cX9_hangs 8 (some .boolean) 0 0 0 52 [.ref 39, .int (nI w), .int m, .int a, .int (nI 0), u, v, x] [] (Mm dc J L) (Is (some (.int (bI (hgP J wk n (inW r n w))))) (Mm dc J L)) := by
  refine v_ild4 dX9_hangs_52 ?_
  refine v_if_eq (tgt := 165) dX9_hangs_54 (by decide) (fun h54 => ?_) (fun h54 => absurd (show nI 0 = 0 from rfl) h54)
  refine v_ild2 dX9_hangs_165 ?_
  refine v_ild3 dX9_hangs_166 ?_
  refine v_icmp_ne (tgt := 174) dX9_hangs_167 (by decide) (fun h167 => ?_) (fun h167 => ?_)
  · refine v_icN (n := 0) dX9_hangs_174 (by decide) ?_
    exact v_retI dX9_hangs_175 (by first | exact Or.inl rfl | exact Or.inr rfl | exact bI_01) (by refine ⟨?_, rfl⟩; rw [bI_f (c := hgP J wk n (inW r n w)) (fun z => h167 (gb_ext (fun j _ => Bool.eq_iff_iff.mpr ⟨fun q => (ha j).mpr (hI.1 j q), fun q => (show hgP0 J wk n (inW r n w) from cP_iff.mp z) _ hI.2.1 hcl j ((ha j).mp q)⟩)))])
  · refine v_icN (n := 1) dX9_hangs_170 (by decide) ?_
    refine v_goto (tgt := 175) dX9_hangs_171 (by decide) ?_
    exact v_retI dX9_hangs_175 (by first | exact Or.inl rfl | exact Or.inr rfl | exact bI_01) (by refine ⟨?_, rfl⟩; rw [bI_t (c := hgP J wk n (inW r n w)) (cP_iff.mpr (fun T hT hc j hj => hI.2.2 T hT hc j (by rw [h167]; exact (ha j).mpr hj)))])

set_option maxRecDepth 4000 in
theorem lp_hgW {G : GG} {dc : Nat} {J : Nat → Nat → Int32} {L : Nat → Nat → Int64} {r : Nat → Nat} {n : Nat} {wk : Nat → Nat} {w : Nat} {a : Int32} (hn : n ≤ 6) (hnn : J 39 36 = nI n) (hr : Wk n J r) (hb : Wb n J wk) (ha : ∀ j, gb a j = true ↔ (inW r n w) j) : ∀ (f : Nat) (m : Int32) (u v x : Value), n + 1 ≤ f + cm n m → HI J wk n (inW r n w) m → V G yX9_hangs cX9_hangs 8 (some .boolean) 0 0 0 52 [.ref 39, .int (nI w), .int m, .int a, .int (nI 1), u, v, x] [] (Mm dc J L) (Is (some (.int (bI (hgP J wk n (inW r n w))))) (Mm dc J L)) := by
  intro f
  induction f with
  | zero => intro m u v x hf; have : cm n m ≤ n := ct_le (fun j => gb m j) n; omega
  | succ f ih =>
    intro m u v x hf hI
    refine v_ild4 dX9_hangs_52 ?_
    refine v_if_eq (tgt := 165) dX9_hangs_54 (by decide) (fun h54 => absurd h54 (by decide)) (fun h54 => ?_)
    refine v_ild2 dX9_hangs_57 ?_
    refine v_ist5 dX9_hangs_58 rfl ?_
    refine v_icN (n := 0) dX9_hangs_60 (by decide) ?_
    refine v_ist6 dX9_hangs_61 rfl ?_
    refine lp_hgI hn hnn hr hb ha (fun m1 u1 hI1 hP1 => ?_) n 0 (by omega) m _ hI ⟨fun k hk => hk, fun i' j' ho => by omega⟩
    refine v_ild2 dX9_hangs_149 ?_
    refine v_ild5 dX9_hangs_150 ?_
    refine v_icmp_eq (tgt := 159) dX9_hangs_152 (by decide) (fun h152 => ?_) (fun h152 => ?_)
    · refine v_icN (n := 0) dX9_hangs_159 (by decide) ?_
      refine v_ist4 dX9_hangs_160 rfl ?_
      refine v_goto (tgt := 52) dX9_hangs_162 (by decide) ?_
      refine lp_hgE ha hI1 (fun i j h1 h2 h3 h4 h5 => hP1.2 i j (Or.inl h1) h1 h2 (by rw [← h152]; exact h3) h4 h5)
    · refine v_icN (n := 1) dX9_hangs_155 (by decide) ?_
      refine v_goto (tgt := 160) dX9_hangs_156 (by decide) ?_
      refine v_ist4 dX9_hangs_160 rfl ?_
      refine v_goto (tgt := 52) dX9_hangs_162 (by decide) ?_
      refine ih m1 _ _ _ ?_ hI1
      have hlt : cm n m < cm n m1 := by
        have hex : ∃ k, gb m k = false ∧ gb m1 k = true := Classical.byContradiction fun z => h152 (gb_ext (fun k _ => by
          cases h1 : gb m1 k with
          | true => cases h2 : gb m k with
            | true => rfl
            | false => exact absurd ⟨k, h2, h1⟩ z
          | false => cases h2 : gb m k with
            | true => rw [hP1.1 k h2] at h1; cases h1
            | false => rfl))
        obtain ⟨k, hk1, hk2⟩ := hex
        exact ct_lt hP1.1 (hI1.1 k hk2).1 hk1 hk2
      omega

set_option maxRecDepth 4000 in
theorem lp_hgA {G : GG} {dc : Nat} {J : Nat → Nat → Int32} {L : Nat → Nat → Int64} {r : Nat → Nat} {n : Nat} {wk : Nat → Nat} {w : Nat} {Q : Option Value → Mem → Prop} (hn : n ≤ 6) (hnn : J 39 36 = nI n) (hr : Wk n J r) (hb : Wb n J wk) (hw : w < 100) (hk9 : ∀ a, (∀ j, gb a j = true ↔ (inW r n w) j) → V G yX9_hangs cX9_hangs 8 (some .boolean) 0 0 0 44 [.ref 39, .int (nI w), .int (nI 0), .int a, .int (nI n), UU, UU, UU] [] (Mm dc J L) Q) (k : Nat) : ∀ i, i + k = n → ∀ x, (∀ j, gb x j = true ↔ (j < i ∧ r j = w)) → V G yX9_hangs cX9_hangs 8 (some .boolean) 0 0 0 7 [.ref 39, .int (nI w), .int (nI 0), .int x, .int (nI i), UU, UU, UU] [] (Mm dc J L) Q := by
  induction k with
  | zero =>
    intro i hi x hx
    refine v_ild4 dX9_hangs_7 ?_
    refine v_ald0 dX9_hangs_9 ?_
    refine v_getI dX9_hangs_10 fl_X9_224 (by first | rfl | exact lay_door (by omega) | exact lay_dt (by omega) | exact lay_da (by omega) | exact lay_sh (by omega) | exact lay_se (by omega)) rfl (by omega) ?_
    refine v_e0 (congrArg Value.int (show _ = nI n from hnn)) ?_
    refine v_icmp_ge (tgt := 44) dX9_hangs_13 (by decide) (fun h13 => ?_) (fun h13 => absurd (nI_le (by omega) (by omega)) h13)
    obtain rfl : i = n := by omega
    exact hk9 _ hx
  | succ k ih =>
    intro i hi x hx
    refine v_ild4 dX9_hangs_7 ?_
    refine v_ald0 dX9_hangs_9 ?_
    refine v_getI dX9_hangs_10 fl_X9_224 (by first | rfl | exact lay_door (by omega) | exact lay_dt (by omega) | exact lay_da (by omega) | exact lay_sh (by omega) | exact lay_se (by omega)) rfl (by omega) ?_
    refine v_e0 (congrArg Value.int (show _ = nI n from hnn)) ?_
    refine v_icmp_ge (tgt := 44) dX9_hangs_13 (by decide) (fun h13 => absurd h13 (nI_ge (by omega) (by omega))) (fun h13 => ?_)
    refine v_ild3 dX9_hangs_16 ?_
    refine v_ald0 dX9_hangs_17 ?_
    refine v_getP (q := 66) dX9_hangs_18 fl_X9_103 (by first | rfl | exact lay_door (by omega) | exact lay_dt (by omega) | exact lay_da (by omega) | exact lay_sh (by omega) | exact lay_se (by omega)) rfl (by omega) rfl ?_
    refine v_ild4 dX9_hangs_21 ?_
    refine v_iald dX9_hangs_23 (by first | rfl | exact lay_door (by omega) | exact lay_dt (by omega) | exact lay_da (by omega) | exact lay_sh (by omega) | exact lay_se (by omega)) (by omega) ⟨rfl, by omega, by decide⟩ ?_
    refine v_ild1 dX9_hangs_24 ?_
    refine v_icmp_ne (tgt := 35) dX9_hangs_25 (by decide) (fun h25 => ?_) (fun h25 => ?_)
    · have e25 : ¬ r i = w := fun z => h25 (by rw [(hr i (by omega)).1, z])
      refine v_icN (n := 0) dX9_hangs_35 (by decide) ?_
      refine v_ior dX9_hangs_36 ?_
      refine v_ist3 dX9_hangs_37 rfl ?_
      refine v_inc4 dX9_hangs_38 rfl ?_
      refine v_goto (tgt := 7) dX9_hangs_41 (by decide) ?_
      rw [nI_1 i]
      refine ih (i + 1) (by omega) _ (fun j => ?_)
      rw [gb_or, gb_0, Bool.or_false, hx j]
      refine ⟨fun z => ⟨by omega, z.2⟩, fun z => ⟨?_, z.2⟩⟩
      by_cases e : j = i
      · subst e; exact absurd z.2 e25
      · omega
    · have e25 : r i = w := (nI_eq (by have := (hr i (by omega)).2; omega) (by omega)).mp ((hr i (by omega)).1.symm.trans h25)
      refine v_icN (n := 1) dX9_hangs_28 (by decide) ?_
      refine v_ild4 dX9_hangs_29 ?_
      refine v_ishl dX9_hangs_31 ?_
      refine v_goto (tgt := 36) dX9_hangs_32 (by decide) ?_
      refine v_ior dX9_hangs_36 ?_
      refine v_ist3 dX9_hangs_37 rfl ?_
      refine v_inc4 dX9_hangs_38 rfl ?_
      refine v_goto (tgt := 7) dX9_hangs_41 (by decide) ?_
      rw [nI_1 i]
      refine ih (i + 1) (by omega) _ (fun j => ?_)
      by_cases h32 : j < 32
      · rw [or_set (by omega) h32, Bool.or_eq_true, hx j]
        refine ⟨fun z => z.elim (fun z => ⟨by omega, z.2⟩) (fun z => by have := of_decide_eq_true z; subst this; exact ⟨by omega, e25⟩), fun z => ?_⟩
        by_cases e : j = i
        · exact Or.inr (decide_eq_true e)
        · exact Or.inl ⟨by omega, z.2⟩
      · rw [gb_hi (by omega)]
        exact ⟨fun z => (by cases z), fun z => by omega⟩

set_option maxRecDepth 4000 in
theorem c_X9_hangs {G : GG} {dc : Nat} {J : Nat → Nat → Int32} {L : Nat → Nat → Int64} {r : Nat → Nat} {n : Nat} {x : Int32} {wk : Nat → Nat} {w : Nat} (hn : n ≤ 6) (hnn : J 39 36 = nI n) (hr : Wk n J r) (hb : Wb n J wk) (hx : x = nI w) (hw : w < 100) : Cn G yX9_hangs cX9_hangs 8 (some .boolean) 0 0 0 [.ref 39, .int x] (Mm dc J L) (Is (some (.int (bI (hgP J wk n (inW r n w))))) (Mm dc J L)) := by
  subst hx
  refine Cn.of' (by decide) (Nat.le_of_ble_eq_true rfl) rfl ?_
  refine v_icN (n := 0) dX9_hangs_0 (by decide) ?_
  refine v_ist2 dX9_hangs_1 rfl ?_
  refine v_icN (n := 0) dX9_hangs_2 (by decide) ?_
  refine v_ist3 dX9_hangs_3 rfl ?_
  refine v_icN (n := 0) dX9_hangs_4 (by decide) ?_
  refine v_ist4 dX9_hangs_5 rfl ?_
  refine lp_hgA hn hnn hr hb hw (fun a ha => ?_) n 0 (by omega) _ (fun j => ⟨fun z => (by rw [gb_0] at z; cases z), fun z => by omega⟩)
  refine v_ild3 dX9_hangs_44 ?_
  refine v_ild3 dX9_hangs_45 ?_
  refine v_ineg dX9_hangs_46 ?_
  refine v_iand dX9_hangs_47 ?_
  refine v_ist2 dX9_hangs_48 rfl ?_
  refine v_icN (n := 1) dX9_hangs_49 (by decide) ?_
  refine v_ist4 dX9_hangs_50 rfl ?_
  refine lp_hgW hn hnn hr hb ha (n + 1) _ _ _ _ (Nat.le_add_right _ _) ⟨fun j hj => ?_, fun j hj hl => ?_, fun T hT hc j hj => ?_⟩
  · rw [gb_and, Bool.and_eq_true] at hj; exact (ha j).mp hj.1
  · have h32 : j < 32 := by have := hj.1; omega
    exact (low_b h32).mpr ⟨(ha j).mpr hj, fun i hi => by
      cases hq : gb a i with
      | false => rfl
      | true => exact absurd ((ha i).mp hq) (hl i hi)⟩
  · have h32 : j < 32 := Classical.byContradiction fun z => by rw [gb_hi (by omega)] at hj; cases hj
    obtain ⟨h1, h2⟩ := (low_b h32).mp hj
    exact hT j ((ha j).mp h1) (fun i hi z => by have h3 := h2 i hi; rw [(ha i).mpr z] at h3; cases h3)
