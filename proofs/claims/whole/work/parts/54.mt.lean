abbrev smM (I : Nat → Nat → Int32) (c : Nat) : Prop := ¬ I 71 c ≤ 0 ∧ ¬ I 39 20 ≤ I 71 c
/-- a step by hidden cells but one -/
def stS (hid pos : Nat → Prop) (but a b : Nat) : Prop := ((a < 6 ∧ 6 ≤ b ∧ b < 10) ∨ (6 ≤ a ∧ a < 10 ∧ b < 6)) ∧ clN a b ≠ but ∧ hid (clN a b) ∧ (a < 6 ∨ pos (clN a b))
theorem stM_S (H N : Nat → Int32) (but : Nat) : stM H N but = stS (fun c => ¬ H c = 0) (fun c => ¬ N c = 0) but := rfl
def tsafe0 (small hid pos : Nat → Prop) : Prop := ∀ c, c < 24 → small c → rch (stS hid pos c) (6 + c % 4) (c / 4) ∨ rch (stS hid pos c) (c / 4) (6 + c % 4)
abbrev tsafe (small hid pos : Nat → Prop) : Prop := cP (tsafe0 small hid pos)

set_option maxRecDepth 4000 in
theorem c_X9_isSmall {G : GG} {dc : Nat} {I : Nat → Nat → Int32} {L : Nat → Nat → Int64} {x : Int32} {c : Nat} (e1 : x = nI c) (hc : c < 24) : Cn G yX9_isSmall cX9_isSmall 2 (some .boolean) 0 0 0 [.ref 39, .int x] (Mm dc I L) (Is (some (.int (bI (smM I c)))) (Mm dc I L)) := by
  subst e1
  refine Cn.of' (by decide) (Nat.le_of_ble_eq_true rfl) rfl ?_
  refine v_ald0 dX9_isSmall_0 ?_
  refine v_getP (q := 71) dX9_isSmall_1 fl_X9_118 (by first | rfl | exact lay_door (by omega) | exact lay_dt (by omega) | exact lay_da (by omega) | exact lay_sh (by omega) | exact lay_se (by omega)) rfl (by omega) rfl ?_
  refine v_ild1 dX9_isSmall_4 ?_
  refine v_iald dX9_isSmall_5 (by first | rfl | exact lay_door (by omega) | exact lay_dt (by omega) | exact lay_da (by omega) | exact lay_sh (by omega) | exact lay_se (by omega)) (by omega) ⟨rfl, hc, by decide⟩ ?_
  refine v_if_le (tgt := 26) dX9_isSmall_6 (by decide) (fun h6 => ?_) (fun h6 => ?_)
  · refine v_icN (n := 0) dX9_isSmall_26 (by decide) ?_
    exact v_retI dX9_isSmall_27 (by first | exact Or.inl rfl | exact Or.inr rfl | exact bI_01) (by refine ⟨?_, rfl⟩; rw [bI_f (fun z => z.1 h6)])
  · refine v_ald0 dX9_isSmall_9 ?_
    refine v_getP (q := 71) dX9_isSmall_10 fl_X9_118 (by first | rfl | exact lay_door (by omega) | exact lay_dt (by omega) | exact lay_da (by omega) | exact lay_sh (by omega) | exact lay_se (by omega)) rfl (by omega) rfl ?_
    refine v_ild1 dX9_isSmall_13 ?_
    refine v_iald dX9_isSmall_14 (by first | rfl | exact lay_door (by omega) | exact lay_dt (by omega) | exact lay_da (by omega) | exact lay_sh (by omega) | exact lay_se (by omega)) (by omega) ⟨rfl, hc, by decide⟩ ?_
    refine v_ald0 dX9_isSmall_15 ?_
    refine v_getI dX9_isSmall_16 fl_X9_69 (by first | rfl | exact lay_door (by omega) | exact lay_dt (by omega) | exact lay_da (by omega) | exact lay_sh (by omega) | exact lay_se (by omega)) rfl (by omega) ?_
    refine v_icmp_ge (tgt := 26) dX9_isSmall_19 (by decide) (fun h19 => ?_) (fun h19 => ?_)
    · refine v_icN (n := 0) dX9_isSmall_26 (by decide) ?_
      exact v_retI dX9_isSmall_27 (by first | exact Or.inl rfl | exact Or.inr rfl | exact bI_01) (by refine ⟨?_, rfl⟩; rw [bI_f (fun z => z.2 h19)])
    · refine v_icN (n := 1) dX9_isSmall_22 (by decide) ?_
      refine v_goto (tgt := 27) dX9_isSmall_23 (by decide) ?_
      exact v_retI dX9_isSmall_27 (by first | exact Or.inl rfl | exact Or.inr rfl | exact bI_01) (by refine ⟨?_, rfl⟩; rw [bI_t ⟨h6, h19⟩])

def sfQ (dc : Nat) (I : Nat → Nat → Int32) (L : Nat → Nat → Int64) : Option Value → Mem → Prop := fun r μ => ∃ J, μ = Mm dc J L ∧ r = some (.int (bI (tsafe (smM I) (fun c => ¬ I 74 c = 0) (fun c => ¬ I 71 c = 0)))) ∧ agF I J
theorem smM_c {I J : Nat → Nat → Int32} (h1 : J 71 = I 71) (h2 : J 39 20 = I 39 20) (c : Nat) : smM J c ↔ smM I c := by
  unfold smM
  rw [h1, h2]
theorem agF.sm {I J : Nat → Nat → Int32} (h : agF I J) (c : Nat) : smM J c ↔ smM I c := smM_c (h.f (by decide) (by decide)) (h 39 20 (by decide) (by decide)) c

set_option maxRecDepth 4000 in
theorem lp_sf {G : GG} {dc : Nat} {I : Nat → Nat → Int32} {L : Nat → Nat → Int64} (k : Nat) : ∀ c, c + k = 24 → ∀ J, agF I J → (∀ c', c' < c → smM I c' → (rch (stS (fun c => ¬ I 74 c = 0) (fun c => ¬ I 71 c = 0) c') (6 + c' % 4) (c' / 4) ∨ rch (stS (fun c => ¬ I 74 c = 0) (fun c => ¬ I 71 c = 0) c') (c' / 4) (6 + c' % 4))) → V G yX9_isSafe cX9_isSafe 2 (some .boolean) 2 0 0 2 [.ref 39, .int (nI c)] [] (Mm dc J L) (sfQ dc I L) := by
  induction k with
  | zero =>
    intro c hc J hJ hd
    refine v_ild1 dX9_isSafe_2 ?_
    refine v_bipush (v := nI 24) dX9_isSafe_3 (by decide) ?_
    refine v_icmp_ge (tgt := 56) dX9_isSafe_5 (by decide) (fun h5 => ?_) (fun h5 => absurd (nI_le (by omega) (by omega)) h5)
    refine v_icN (n := 1) dX9_isSafe_56 (by decide) ?_
    exact v_retI dX9_isSafe_57 (by first | exact Or.inl rfl | exact Or.inr rfl | exact bI_01) ⟨J, rfl, by rw [bI_t (c := tsafe _ _ _) (cP_iff.mpr (fun c' hc' => hd c' (by omega)))], hJ⟩
  | succ k ih =>
    intro c hc J hJ hd
    refine v_ild1 dX9_isSafe_2 ?_
    refine v_bipush (v := nI 24) dX9_isSafe_3 (by decide) ?_
    refine v_icmp_ge (tgt := 56) dX9_isSafe_5 (by decide) (fun h5 => absurd h5 (nI_ge (by omega) (by omega))) (fun h5 => ?_)
    refine v_ald0 dX9_isSafe_8 ?_
    refine v_ild1 dX9_isSafe_9 ?_
    refine v_V1 (c_X9_isSmall (c := c) rfl (by omega)) lk_X9_263 dX9_isSafe_10 (by decide) (Nat.le_of_ble_eq_true rfl) (by first | rfl | exact lay_door (by omega) | exact lay_dt (by omega) | exact lay_da (by omega) | exact lay_sh (by omega) | exact lay_se (by omega)) (show _ < 78 + 3 * _ by omega) ?_
    refine v_ifeq_b (tgt := 50) dX9_isSafe_13 (by decide) (fun h13 => ?_) (fun h13 => ?_)
    · refine v_inc1 dX9_isSafe_50 rfl ?_
      refine v_goto (tgt := 2) dX9_isSafe_53 (by decide) ?_
      rw [nI_1 c]
      refine ih (c + 1) (by omega) _ hJ (fun c' hc' => ?_)
      by_cases z : c' = c
      · rw [z]
        exact fun z => absurd ((hJ.sm c).mpr z) h13
      · exact hd c' (by omega)
    · refine v_ald0 dX9_isSafe_16 ?_
      refine v_ild1 dX9_isSafe_17 ?_
      refine v_ald0 dX9_isSafe_18 ?_
      refine v_getP (q := 74) dX9_isSafe_19 fl_X9_127 (by first | rfl | exact lay_door (by omega) | exact lay_dt (by omega) | exact lay_da (by omega) | exact lay_sh (by omega) | exact lay_se (by omega)) rfl (by omega) rfl ?_
      refine v_ald0 dX9_isSafe_22 ?_
      refine v_getP (q := 71) dX9_isSafe_23 fl_X9_118 (by first | rfl | exact lay_door (by omega) | exact lay_dt (by omega) | exact lay_da (by omega) | exact lay_sh (by omega) | exact lay_se (by omega)) rfl (by omega) rfl ?_
      refine v_V3p (c_X9_canRise (c := c) rfl (by omega) (Or.inr rfl) (Or.inr (Or.inl rfl))) lk_X9_266 dX9_isSafe_26 (by decide) (Nat.le_of_ble_eq_true rfl) rfl (show _ < 78 + 3 * _ by omega) (fun r μ₁ h => ?_)
      obtain ⟨K1, rfl, rfl, h1, -⟩ := h
      have hK1 := hJ.t h1
      rw [stM_S, hJ.f (x := 74) (by decide) (by decide), hJ.f (x := 71) (by decide) (by decide)]
      refine v_ifne_b (tgt := 50) dX9_isSafe_29 (by decide) (fun h29 => ?_) (fun h29 => ?_)
      · refine v_inc1 dX9_isSafe_50 rfl ?_
        refine v_goto (tgt := 2) dX9_isSafe_53 (by decide) ?_
        rw [nI_1 c]
        refine ih (c + 1) (by omega) _ hK1 (fun c' hc' => ?_)
        by_cases z : c' = c
        · rw [z]
          exact fun _ => Or.inl h29
        · exact hd c' (by omega)
      · refine v_ald0 dX9_isSafe_32 ?_
        refine v_ild1 dX9_isSafe_33 ?_
        refine v_ald0 dX9_isSafe_34 ?_
        refine v_getP (q := 74) dX9_isSafe_35 fl_X9_127 (by first | rfl | exact lay_door (by omega) | exact lay_dt (by omega) | exact lay_da (by omega) | exact lay_sh (by omega) | exact lay_se (by omega)) rfl (by omega) rfl ?_
        refine v_ald0 dX9_isSafe_38 ?_
        refine v_getP (q := 71) dX9_isSafe_39 fl_X9_118 (by first | rfl | exact lay_door (by omega) | exact lay_dt (by omega) | exact lay_da (by omega) | exact lay_sh (by omega) | exact lay_se (by omega)) rfl (by omega) rfl ?_
        refine v_V3p (c_X9_canFall (c := c) rfl (by omega) (Or.inr rfl) (Or.inr (Or.inl rfl))) lk_X9_270 dX9_isSafe_42 (by decide) (Nat.le_of_ble_eq_true rfl) rfl (show _ < 78 + 3 * _ by omega) (fun r μ₁ h => ?_)
        obtain ⟨K2, rfl, rfl, h2, -⟩ := h
        have hK2 := hK1.t h2
        rw [stM_S, hK1.f (x := 74) (by decide) (by decide), hK1.f (x := 71) (by decide) (by decide)]
        refine v_ifne_b (tgt := 50) dX9_isSafe_45 (by decide) (fun h45 => ?_) (fun h45 => ?_)
        · refine v_inc1 dX9_isSafe_50 rfl ?_
          refine v_goto (tgt := 2) dX9_isSafe_53 (by decide) ?_
          rw [nI_1 c]
          refine ih (c + 1) (by omega) _ hK2 (fun c' hc' => ?_)
          by_cases z : c' = c
          · rw [z]
            exact fun _ => Or.inr h45.2
          · exact hd c' (by omega)
        · refine v_icN (n := 0) dX9_isSafe_48 (by decide) ?_
          exact v_retI dX9_isSafe_49 (by first | exact Or.inl rfl | exact Or.inr rfl | exact bI_01) ⟨K2, rfl, by rw [bI_f (c := tsafe _ _ _) (fun z => (cP_iff.mp z c (by omega) ((hJ.sm c).mp h13)).elim h29 (fun w => h45 ⟨((hJ.sm c).mp h13).1, w⟩))], hK2⟩

set_option maxRecDepth 4000 in
theorem c_X9_isSafe {G : GG} {dc : Nat} {I : Nat → Nat → Int32} {L : Nat → Nat → Int64} : Cn G yX9_isSafe cX9_isSafe 2 (some .boolean) 2 0 0 [.ref 39] (Mm dc I L) (sfQ dc I L) := by
  refine Cn.of' (by decide) (Nat.le_of_ble_eq_true rfl) rfl ?_
  refine v_icN (n := 0) dX9_isSafe_0 (by decide) ?_
  refine v_ist1 dX9_isSafe_1 rfl ?_
  exact lp_sf 24 0 (by omega) I (fun _ _ _ _ => rfl) (fun c hc => absurd hc (Nat.not_lt_zero _))

def Ot (n : Nat) (J : Nat → Nat → Int32) (o : Nat → Nat) : Prop := ∀ k, k < n → J 77 k = nI (o k) ∧ o k < 24
def hdM (J : Nat → Nat → Int32) (o : Nat → Nat) : Nat → Nat → Nat → Int32
  | 0 => J
  | k + 1 => u2 (hdM J o k) 74 (o k) (nI 1)
theorem hdM_o {J : Nat → Nat → Int32} {o : Nat → Nat} {x : Nat} (j : Nat) (h : x ≠ 74) : ∀ k, hdM J o k x j = J x j
  | 0 => rfl
  | k + 1 => by rw [hdM, u2_a _ _ _ _ h]; exact hdM_o j h k
abbrev smR (I : Nat → Nat → Int32) (i : Nat) : Nat → Nat → Int32 := rf2 I 74 i (fun c => bI (smM I c))
theorem hdM_74 {J : Nat → Nat → Int32} {o : Nat → Nat} {c : Nat} : ∀ k, hdM J o k 74 c = if (∃ j, j < k ∧ o j = c) then nI 1 else J 74 c
  | 0 => by rw [if_neg (fun q => by obtain ⟨j, hj, -⟩ := q; omega)]; rfl
  | k + 1 => by
    rw [hdM]
    by_cases e : c = o k
    · rw [e, u2_s, if_pos ⟨k, by omega, rfl⟩]
    · rw [u2_k _ _ _ _ e, hdM_74 k]
      by_cases h : ∃ j, j < k ∧ o j = c
      · obtain ⟨j, hj, hc⟩ := h
        rw [if_pos ⟨j, hj, hc⟩, if_pos ⟨j, by omega, hc⟩]
      · rw [if_neg h, if_neg (fun q => by
          obtain ⟨j, hj, hc⟩ := q
          by_cases z : j = k
          · subst z; exact e hc.symm
          · exact h ⟨j, by omega, hc⟩)]

set_option maxRecDepth 4000 in
theorem lp_hd2 {G : GG} {dc : Nat} {J : Nat → Nat → Int32} {L : Nat → Nat → Int64} {n : Nat} {o : Nat → Nat} (hn : n ≤ 4) (ho : Ot n J o) (k : Nat) : ∀ i, i + k = n → V G yX9_hides cX9_hides 3 none 1 0 0 27 [.ref 39, .int (nI n), .int (nI i)] [] (Mm dc (hdM J o i) L) (Is none (Mm dc (hdM J o n) L)) := by
  induction k with
  | zero =>
    intro i hi
    refine v_ild2 dX9_hides_27 ?_
    refine v_ild1 dX9_hides_28 ?_
    refine v_icmp_ge (tgt := 50) dX9_hides_29 (by decide) (fun h29 => ?_) (fun h29 => absurd (nI_le (by omega) (by omega)) h29)
    exact v_retV dX9_hides_50 trivial (by rw [show i = n by omega]; exact ⟨rfl, rfl⟩)
  | succ k ih =>
    intro i hi
    refine v_ild2 dX9_hides_27 ?_
    refine v_ild1 dX9_hides_28 ?_
    refine v_icmp_ge (tgt := 50) dX9_hides_29 (by decide) (fun h29 => absurd h29 (nI_ge (by omega) (by omega))) (fun h29 => ?_)
    refine v_ald0 dX9_hides_32 ?_
    refine v_getP (q := 74) dX9_hides_33 fl_X9_127 (by first | rfl | exact lay_door (by omega) | exact lay_dt (by omega) | exact lay_da (by omega) | exact lay_sh (by omega) | exact lay_se (by omega)) rfl (by omega) rfl ?_
    refine v_ald0 dX9_hides_36 ?_
    refine v_getP (q := 77) dX9_hides_37 fl_X9_136 (by first | rfl | exact lay_door (by omega) | exact lay_dt (by omega) | exact lay_da (by omega) | exact lay_sh (by omega) | exact lay_se (by omega)) rfl (by omega) rfl ?_
    refine v_ild2 dX9_hides_40 ?_
    refine v_iald dX9_hides_41 (by first | rfl | exact lay_door (by omega) | exact lay_dt (by omega) | exact lay_da (by omega) | exact lay_sh (by omega) | exact lay_se (by omega)) (by omega) ⟨rfl, by omega, by decide⟩ ?_
    refine v_icN (n := 1) dX9_hides_42 (by decide) ?_
    refine v_zast dX9_hides_43 (by first | rfl | exact lay_door (by omega) | exact lay_dt (by omega) | exact lay_da (by omega) | exact lay_sh (by omega) | exact lay_se (by omega)) (by omega) ⟨(hdM_o _ (by decide) i).trans (ho i (by omega)).1, (ho i (by omega)).2, by decide⟩ (by first | exact Or.inl rfl | exact Or.inr rfl | exact bI_01) ?_
    refine v_inc2 dX9_hides_44 rfl ?_
    refine v_goto (tgt := 27) dX9_hides_47 (by decide) ?_
    rw [nI_1 i]
    exact ih (i + 1) (by omega)

set_option maxRecDepth 4000 in
theorem lp_hd1 {G : GG} {dc : Nat} {I : Nat → Nat → Int32} {L : Nat → Nat → Int64} {n : Nat} {o : Nat → Nat} (hn : n ≤ 4) (ho : Ot n I o) (k : Nat) : ∀ i, i + k = 24 → V G yX9_hides cX9_hides 3 none 1 0 0 2 [.ref 39, .int (nI n), .int (nI i)] [] (Mm dc (smR I i) L) (Is none (Mm dc (hdM (smR I 24) o n) L)) := by
  induction k with
  | zero =>
    intro i hi
    refine v_ild2 dX9_hides_2 ?_
    refine v_bipush (v := nI 24) dX9_hides_3 (by decide) ?_
    refine v_icmp_ge (tgt := 25) dX9_hides_5 (by decide) (fun h5 => ?_) (fun h5 => absurd (nI_le (by omega) (by omega)) h5)
    refine v_icN (n := 0) dX9_hides_25 (by decide) ?_
    refine v_ist2 dX9_hides_26 rfl ?_
    obtain rfl : i = 24 := by omega
    exact lp_hd2 (J := smR I 24) hn (show Ot n (smR I 24) o from fun k hk => ho k hk) n 0 (by omega)
  | succ k ih =>
    intro i hi
    refine v_ild2 dX9_hides_2 ?_
    refine v_bipush (v := nI 24) dX9_hides_3 (by decide) ?_
    refine v_icmp_ge (tgt := 25) dX9_hides_5 (by decide) (fun h5 => absurd h5 (nI_ge (by omega) (by omega))) (fun h5 => ?_)
    refine v_ald0 dX9_hides_8 ?_
    refine v_getP (q := 74) dX9_hides_9 fl_X9_127 (by first | rfl | exact lay_door (by omega) | exact lay_dt (by omega) | exact lay_da (by omega) | exact lay_sh (by omega) | exact lay_se (by omega)) rfl (by omega) rfl ?_
    refine v_ild2 dX9_hides_12 ?_
    refine v_ald0 dX9_hides_13 ?_
    refine v_ild2 dX9_hides_14 ?_
    refine v_V1 (c_X9_isSmall (c := i) rfl (by omega)) lk_X9_263 dX9_hides_15 (by decide) (Nat.le_of_ble_eq_true rfl) (by first | rfl | exact lay_door (by omega) | exact lay_dt (by omega) | exact lay_da (by omega) | exact lay_sh (by omega) | exact lay_se (by omega)) (show _ < 78 + 3 * _ by omega) ?_
    refine v_zast dX9_hides_18 (by first | rfl | exact lay_door (by omega) | exact lay_dt (by omega) | exact lay_da (by omega) | exact lay_sh (by omega) | exact lay_se (by omega)) (by omega) ⟨rfl, by omega, by decide⟩ (by first | exact Or.inl rfl | exact Or.inr rfl | exact bI_01) ?_
    refine v_inc2 dX9_hides_19 rfl ?_
    refine v_goto (tgt := 2) dX9_hides_22 (by decide) ?_
    rw [rf2_s _ _ _ _ (show _ = bI (smM I i) from bI_iff' (smM_c (J := smR I i) rfl rfl i)), nI_1 i]
    exact ih (i + 1) (by omega)

set_option maxRecDepth 4000 in
theorem c_X9_hides {G : GG} {dc : Nat} {I : Nat → Nat → Int32} {L : Nat → Nat → Int64} {x : Int32} {n : Nat} {o : Nat → Nat} (e1 : x = nI n) (hn : n ≤ 4) (ho : Ot n I o) : Cn G yX9_hides cX9_hides 3 none 1 0 0 [.ref 39, .int x] (Mm dc I L) (Is none (Mm dc (hdM (smR I 24) o n) L)) := by
  subst e1
  refine Cn.of' (by decide) (Nat.le_of_ble_eq_true rfl) rfl ?_
  refine v_icN (n := 0) dX9_hides_0 (by decide) ?_
  refine v_ist2 dX9_hides_1 rfl ?_
  have h9 := lp_hd1 (G := G) (dc := dc) (L := L) hn ho 24 0 (by omega)
  rw [show smR I 0 = I from rf2_0 _ _ _] at h9
  exact h9

abbrev aoP (I : Nat → Nat → Int32) (o : Nat → Nat) (n : Nat) : Prop := ∀ k, k < n → ¬ smM I (o k)

set_option maxRecDepth 4000 in
theorem lp_ao {G : GG} {dc : Nat} {I : Nat → Nat → Int32} {L : Nat → Nat → Int64} {n : Nat} {o : Nat → Nat} (hn : n ≤ 4) (ho : Ot n I o) (k : Nat) : ∀ i, i + k = n → aoP I o i → V G yX9_areOthers cX9_areOthers 3 (some .boolean) 1 0 0 2 [.ref 39, .int (nI n), .int (nI i)] [] (Mm dc I L) (Is (some (.int (bI (aoP I o n)))) (Mm dc I L)) := by
  induction k with
  | zero =>
    intro i hi hd
    refine v_ild2 dX9_areOthers_2 ?_
    refine v_ild1 dX9_areOthers_3 ?_
    refine v_icmp_ge (tgt := 28) dX9_areOthers_4 (by decide) (fun h4 => ?_) (fun h4 => absurd (nI_le (by omega) (by omega)) h4)
    refine v_icN (n := 1) dX9_areOthers_28 (by decide) ?_
    exact v_retI dX9_areOthers_29 (by first | exact Or.inl rfl | exact Or.inr rfl | exact bI_01) (by obtain rfl : i = n := (by omega); rw [bI_t hd]; exact ⟨rfl, rfl⟩)
  | succ k ih =>
    intro i hi hd
    refine v_ild2 dX9_areOthers_2 ?_
    refine v_ild1 dX9_areOthers_3 ?_
    refine v_icmp_ge (tgt := 28) dX9_areOthers_4 (by decide) (fun h4 => absurd h4 (nI_ge (by omega) (by omega))) (fun h4 => ?_)
    refine v_ald0 dX9_areOthers_7 ?_
    refine v_ald0 dX9_areOthers_8 ?_
    refine v_getP (q := 77) dX9_areOthers_9 fl_X9_136 (by first | rfl | exact lay_door (by omega) | exact lay_dt (by omega) | exact lay_da (by omega) | exact lay_sh (by omega) | exact lay_se (by omega)) rfl (by omega) rfl ?_
    refine v_ild2 dX9_areOthers_12 ?_
    refine v_iald dX9_areOthers_13 (by first | rfl | exact lay_door (by omega) | exact lay_dt (by omega) | exact lay_da (by omega) | exact lay_sh (by omega) | exact lay_se (by omega)) (by omega) ⟨rfl, by omega, by decide⟩ ?_
    refine v_V1 (c_X9_isSmall (c := o i) (ho i (by omega)).1 (ho i (by omega)).2) lk_X9_263 dX9_areOthers_14 (by decide) (Nat.le_of_ble_eq_true rfl) (by first | rfl | exact lay_door (by omega) | exact lay_dt (by omega) | exact lay_da (by omega) | exact lay_sh (by omega) | exact lay_se (by omega)) (show _ < 78 + 3 * _ by omega) ?_
    refine v_ifeq_b (tgt := 22) dX9_areOthers_17 (by decide) (fun h17 => ?_) (fun h17 => ?_)
    · refine v_inc2 dX9_areOthers_22 rfl ?_
      refine v_goto (tgt := 2) dX9_areOthers_25 (by decide) ?_
      rw [nI_1 i]
      refine ih (i + 1) (by omega) (fun k hk => ?_)
      by_cases z : k = i
      · subst z; exact h17
      · exact hd k (by omega)
    · refine v_icN (n := 0) dX9_areOthers_20 (by decide) ?_
      exact v_retI dX9_areOthers_21 (by first | exact Or.inl rfl | exact Or.inr rfl | exact bI_01) (by rw [bI_f (fun z => z i (by omega) h17)]; exact ⟨rfl, rfl⟩)

set_option maxRecDepth 4000 in
theorem c_X9_areOthers {G : GG} {dc : Nat} {I : Nat → Nat → Int32} {L : Nat → Nat → Int64} {x : Int32} {n : Nat} {o : Nat → Nat} (e1 : x = nI n) (hn : n ≤ 4) (ho : Ot n I o) : Cn G yX9_areOthers cX9_areOthers 3 (some .boolean) 1 0 0 [.ref 39, .int x] (Mm dc I L) (Is (some (.int (bI (aoP I o n)))) (Mm dc I L)) := by
  subst e1
  refine Cn.of' (by decide) (Nat.le_of_ble_eq_true rfl) rfl ?_
  refine v_icN (n := 0) dX9_areOthers_0 (by decide) ?_
  refine v_ist2 dX9_areOthers_1 rfl ?_
  exact lp_ao hn ho n 0 (by omega) (fun k hk => absurd hk (Nat.not_lt_zero _))

theorem noK_le (o : Nat → Nat) (n : Nat) : ∀ k, noK o n k ≤ k
  | 0 => Nat.le_refl 0
  | k + 1 => by
    have := noK_le o n k
    simp only [noK]
    split <;> omega
def noJ (J : Nat → Nat → Int32) (o : Nat → Nat) (n K : Nat) : Nat → Nat → Int32 := if K = 0 then J else gr2 (u2 J 77 (K - 1) (nI (o (K - 1) + 1))) 77 K (n - K) (fun t => nI (o (K - 1) + 1 + (t + 1)))
def kv (K : Nat) : Int32 := if K = 0 then -1 else nI (K - 1)

set_option maxRecDepth 4000 in
theorem lp_no2 {G : GG} {dc : Nat} {I : Nat → Nat → Int32} {L : Nat → Nat → Int64} {n : Nat} {o : Nat → Nat} {q : Nat} (hn : n ≤ 4) (ho : Ot n I o) (hq : q < n) (k : Nat) : ∀ i, i + k = n - (q + 1) → V G yX9_nextOthers cX9_nextOthers 4 (some .boolean) 0 0 0 49 [.ref 39, .int (nI n), .int (nI q), .int (nI (q + 1 + i))] [] (Mm dc (gr2 (u2 I 77 q (nI (o q + 1))) 77 (q + 1) (i) (fun t => nI (o q + 1 + (t + 1)))) L) (Is (some (.int (nI 1))) (Mm dc (gr2 (u2 I 77 q (nI (o q + 1))) 77 (q + 1) (n - (q + 1)) (fun t => nI (o q + 1 + (t + 1)))) L)) := by
  induction k with
  | zero =>
    intro i hi
    refine v_ild3 dX9_nextOthers_49 ?_
    refine v_ild1 dX9_nextOthers_50 ?_
    refine v_icmp_ge (tgt := 76) dX9_nextOthers_51 (by decide) (fun h51 => ?_) (fun h51 => absurd (nI_le (by omega) (by omega)) h51)
    refine v_icN (n := 1) dX9_nextOthers_76 (by decide) ?_
    exact v_retI dX9_nextOthers_77 (by first | exact Or.inl rfl | exact Or.inr rfl | exact bI_01) (by rw [show i = n - (q + 1) by omega]; exact ⟨rfl, rfl⟩)
  | succ k ih =>
    intro i hi
    refine v_ild3 dX9_nextOthers_49 ?_
    refine v_ild1 dX9_nextOthers_50 ?_
    refine v_icmp_ge (tgt := 76) dX9_nextOthers_51 (by decide) (fun h51 => absurd h51 (nI_ge (by omega) (by omega))) (fun h51 => ?_)
    refine v_ald0 dX9_nextOthers_54 ?_
    refine v_getP (q := 77) dX9_nextOthers_55 fl_X9_136 (by first | rfl | exact lay_door (by omega) | exact lay_dt (by omega) | exact lay_da (by omega) | exact lay_sh (by omega) | exact lay_se (by omega)) rfl (by omega) rfl ?_
    refine v_ild3 dX9_nextOthers_58 ?_
    refine v_ald0 dX9_nextOthers_59 ?_
    refine v_getP (q := 77) dX9_nextOthers_60 fl_X9_136 (by first | rfl | exact lay_door (by omega) | exact lay_dt (by omega) | exact lay_da (by omega) | exact lay_sh (by omega) | exact lay_se (by omega)) rfl (by omega) rfl ?_
    refine v_ild3 dX9_nextOthers_63 ?_
    refine v_icN (n := 1) dX9_nextOthers_64 (by decide) ?_
    refine v_isub dX9_nextOthers_65 ?_
    refine v_e0 (congrArg Value.int (show _ = nI (q + i) from by rw [pk_sub (by omega)]; exact congrArg nI (by omega))) ?_
    refine v_iald dX9_nextOthers_66 (by first | rfl | exact lay_door (by omega) | exact lay_dt (by omega) | exact lay_da (by omega) | exact lay_sh (by omega) | exact lay_se (by omega)) (by omega) ⟨rfl, by omega, by decide⟩ ?_
    have hrd : (gr2 (u2 I 77 q (nI (o q + 1))) 77 (q + 1) (i) (fun t => nI (o q + 1 + (t + 1)))) 77 (q + i) = nI (o q + 1 + i) := by
      cases i with
      | zero => rw [gr2_b _ _ (by omega)]; exact u2_s _ _ _ _
      | succ i => rw [show q + (i + 1) = (q + 1) + i by omega, gr2_i _ _ (by omega)]
    refine v_e0 (congrArg Value.int hrd) ?_
    refine v_icN (n := 1) dX9_nextOthers_67 (by decide) ?_
    refine v_iadd dX9_nextOthers_68 ?_
    refine v_e0 (congrArg Value.int (show _ = nI (o q + 1 + (i + 1)) from by rw [nI_add]; rfl)) ?_
    refine v_iast dX9_nextOthers_69 (by first | rfl | exact lay_door (by omega) | exact lay_dt (by omega) | exact lay_da (by omega) | exact lay_sh (by omega) | exact lay_se (by omega)) (by omega) ⟨rfl, by omega, by decide⟩ ?_
    refine v_inc3 dX9_nextOthers_70 rfl ?_
    refine v_goto (tgt := 49) dX9_nextOthers_73 (by decide) ?_
    rw [gr2_s _ _ _ _ _ rfl, nI_1 (q + 1 + i)]
    exact ih (i + 1) (by omega)

set_option maxRecDepth 4000 in
theorem lp_noZ {G : GG} {dc : Nat} {I : Nat → Nat → Int32} {L : Nat → Nat → Int64} {n : Nat} {o : Nat → Nat} (hn : n ≤ 4) (ho : Ot n I o) : V G yX9_nextOthers cX9_nextOthers 4 (some .boolean) 0 0 0 29 [.ref 39, .int (nI n), .int (-1), UU] [] (Mm dc I L) (Is (some (.int (if 0 = 0 then nI 0 else nI 1))) (Mm dc (noJ I o n (0)) L)) := by
  refine v_ild2 dX9_nextOthers_29 ?_
  refine v_if_ge (tgt := 35) dX9_nextOthers_30 (by decide) (fun h30 => absurd h30 (by decide)) (fun h30 => ?_)
  refine v_icN (n := 0) dX9_nextOthers_33 (by decide) ?_
  exact v_retI dX9_nextOthers_34 (by first | exact Or.inl rfl | exact Or.inr rfl | exact bI_01) ⟨rfl, rfl⟩

set_option maxRecDepth 4000 in
theorem lp_noY {G : GG} {dc : Nat} {I : Nat → Nat → Int32} {L : Nat → Nat → Int64} {n : Nat} {o : Nat → Nat} {q : Nat} (hn : n ≤ 4) (ho : Ot n I o) (hq : q < n) : V G yX9_nextOthers cX9_nextOthers 4 (some .boolean) 0 0 0 29 [.ref 39, .int (nI n), .int (nI q), UU] [] (Mm dc I L) (Is (some (.int (if (q + 1) = 0 then nI 0 else nI 1))) (Mm dc (noJ I o n ((q + 1))) L)) := by
  refine v_ild2 dX9_nextOthers_29 ?_
  refine v_if_ge (tgt := 35) dX9_nextOthers_30 (by decide) (fun h30 => ?_) (fun h30 => absurd (nI_pos' (by omega)) h30)
  refine v_ald0 dX9_nextOthers_35 ?_
  refine v_getP (q := 77) dX9_nextOthers_36 fl_X9_136 (by first | rfl | exact lay_door (by omega) | exact lay_dt (by omega) | exact lay_da (by omega) | exact lay_sh (by omega) | exact lay_se (by omega)) rfl (by omega) rfl ?_
  refine v_ild2 dX9_nextOthers_39 ?_
  refine v_dup2 dX9_nextOthers_40 ?_
  refine v_iald dX9_nextOthers_41 (by first | rfl | exact lay_door (by omega) | exact lay_dt (by omega) | exact lay_da (by omega) | exact lay_sh (by omega) | exact lay_se (by omega)) (by omega) ⟨rfl, by omega, by decide⟩ ?_
  refine v_icN (n := 1) dX9_nextOthers_42 (by decide) ?_
  refine v_iadd dX9_nextOthers_43 ?_
  refine v_e0 (congrArg Value.int (show _ = nI (o q + 1) from by rw [(ho q hq).1, nI_add])) ?_
  refine v_iast dX9_nextOthers_44 (by first | rfl | exact lay_door (by omega) | exact lay_dt (by omega) | exact lay_da (by omega) | exact lay_sh (by omega) | exact lay_se (by omega)) (by omega) ⟨rfl, by omega, by decide⟩ ?_
  refine v_ild2 dX9_nextOthers_45 ?_
  refine v_icN (n := 1) dX9_nextOthers_46 (by decide) ?_
  refine v_iadd dX9_nextOthers_47 ?_
  refine v_ist3 dX9_nextOthers_48 rfl ?_
  have h9 := lp_no2 (G := G) (dc := dc) (L := L) hn ho hq (n - (q + 1)) 0 (by omega)
  rw [gr2_0] at h9
  rw [nI_add]
  exact h9

set_option maxRecDepth 4000 in
theorem lp_no1 {G : GG} {dc : Nat} {I : Nat → Nat → Int32} {L : Nat → Nat → Int64} {n : Nat} {o : Nat → Nat} (hn : n ≤ 4) (ho : Ot n I o) : ∀ K, K ≤ n → V G yX9_nextOthers cX9_nextOthers 4 (some .boolean) 0 0 0 4 [.ref 39, .int (nI n), .int (kv K), UU] [] (Mm dc I L) (Is (some (.int (if noK o n K = 0 then nI 0 else nI 1))) (Mm dc (noJ I o n (noK o n K)) L)) := by
  intro K
  induction K with
  | zero =>
    intro hK
    refine v_ild2 dX9_nextOthers_4 ?_
    refine v_if_lt (tgt := 29) dX9_nextOthers_5 (by decide) (fun h5 => ?_) (fun h5 => absurd (show (-1 : Int32) < 0 by decide) h5)
    exact lp_noZ hn ho
  | succ K ih =>
    intro hK
    refine v_ild2 dX9_nextOthers_4 ?_
    refine v_if_lt (tgt := 29) dX9_nextOthers_5 (by decide) (fun h5 => absurd h5 (nI_pos (by omega))) (fun h5 => ?_)
    refine v_ald0 dX9_nextOthers_8 ?_
    refine v_getP (q := 77) dX9_nextOthers_9 fl_X9_136 (by first | rfl | exact lay_door (by omega) | exact lay_dt (by omega) | exact lay_da (by omega) | exact lay_sh (by omega) | exact lay_se (by omega)) rfl (by omega) rfl ?_
    refine v_ild2 dX9_nextOthers_12 ?_
    refine v_iald dX9_nextOthers_13 (by first | rfl | exact lay_door (by omega) | exact lay_dt (by omega) | exact lay_da (by omega) | exact lay_sh (by omega) | exact lay_se (by omega)) (by omega) ⟨rfl, by omega, by decide⟩ ?_
    refine v_e0 (congrArg Value.int (ho K (by omega)).1) ?_
    refine v_bipush (v := nI 24) dX9_nextOthers_14 (by decide) ?_
    refine v_ild1 dX9_nextOthers_16 ?_
    refine v_isub dX9_nextOthers_17 ?_
    refine v_ild2 dX9_nextOthers_18 ?_
    refine v_iadd dX9_nextOthers_19 ?_
    refine v_e0 (congrArg Value.int (show _ = nI (24 - n + K) from by rw [pk_sub (by omega), show kv (K + 1) = nI K from rfl, nI_add])) ?_
    refine v_icmp_ne (tgt := 29) dX9_nextOthers_20 (by decide) (fun h20 => ?_) (fun h20 => ?_)
    · rw [show noK o n (K + 1) = K + 1 from if_neg (fun z => h20 (by rw [z]))]
      exact lp_noY hn ho (by omega)
    · refine v_incm2 dX9_nextOthers_23 rfl ?_
      refine v_goto (tgt := 4) dX9_nextOthers_26 (by decide) ?_
      rw [show noK o n (K + 1) = noK o n K from if_pos ((nI_eq (by have := (ho K (by omega)).2; omega) (by omega)).mp h20)]
      rw [show kv (K + 1) + -1 = kv K from by cases K with | zero => decide | succ K => exact pk_m1 K]
      exact ih (by omega)

set_option maxRecDepth 4000 in
theorem c_X9_nextOthers {G : GG} {dc : Nat} {I : Nat → Nat → Int32} {L : Nat → Nat → Int64} {x : Int32} {n : Nat} {o : Nat → Nat} (e1 : x = nI n) (hn : n ≤ 4) (ho : Ot n I o) : Cn G yX9_nextOthers cX9_nextOthers 4 (some .boolean) 0 0 0 [.ref 39, .int x] (Mm dc I L) (Is (some (.int (if noK o n n = 0 then nI 0 else nI 1))) (Mm dc (noJ I o n (noK o n n)) L)) := by
  subst e1
  refine Cn.of' (by decide) (Nat.le_of_ble_eq_true rfl) rfl ?_
  refine v_ild1 dX9_nextOthers_0 ?_
  refine v_icN (n := 1) dX9_nextOthers_1 (by decide) ?_
  refine v_isub dX9_nextOthers_2 ?_
  refine v_e0 (congrArg Value.int (show _ = kv n from by cases n with | zero => decide | succ n => exact (pk_sub (by omega)))) ?_
  refine v_ist2 dX9_nextOthers_3 rfl ?_
  exact lp_no1 hn ho n (Nat.le_refl _)
