/-- the model's works -/
def Wo (J : Nat → Nat → Int32) (wo : Nat → Nat) : Prop := ∀ b, b < 6 → J 69 b = nI (wo b) ∧ wo b ≤ 24
def gwS (r wk wo : Nat → Nat) (w : Nat) : Nat → Nat
  | 0 => 0
  | i + 1 => gwS r wk wo w i + (if r i = w then wo (wk i) else 0)
theorem gwS_le {r wk wo : Nat → Nat} {w : Nat} : ∀ {i : Nat}, (∀ j, j < i → wo (wk j) ≤ 24) → gwS r wk wo w i ≤ 24 * i
  | 0, _ => Nat.le_refl _
  | i + 1, h => by
    have := gwS_le (r := r) (w := w) (i := i) (fun j hj => h j (by omega))
    have := h i (by omega)
    simp only [gwS]
    split <;> omega
def gMx (r wk wo : Nat → Nat) (n : Nat) : Nat → Nat
  | 0 => 0
  | w + 1 => if gwS r wk wo w n ≤ gMx r wk wo n w then gMx r wk wo n w else gwS r wk wo w n
theorem gMx_le {r wk wo : Nat → Nat} {n N : Nat} (h : ∀ w, gwS r wk wo w n ≤ N) : ∀ p, gMx r wk wo n p ≤ N
  | 0 => Nat.zero_le _
  | p + 1 => by
    have := gMx_le h p
    have := h p
    simp only [gMx]
    split <;> omega
abbrev gAll (J : Nat → Nat → Int32) (r wk wo : Nat → Nat) (n lim p : Nat) : Prop := ∀ w, w < p → gwS r wk wo w n ≤ lim ∧ hgP J wk n (inW r n w)

set_option maxRecDepth 4000 in
theorem lp_gwi {G : GG} {dc : Nat} {J : Nat → Nat → Int32} {L : Nat → Nat → Int64} {r : Nat → Nat} {n : Nat} {wk wo : Nat → Nat} {lim p : Nat} {w : Nat} {x : Int32} {Q : Option Value → Mem → Prop} (hn : n ≤ 6) (hnn : J 39 36 = nI n) (hr : Wk n J r) (hb : Wb n J wk) (ho : Wo J wo) (hlim : lim ≤ 24) (hp : p ≤ 100) (hw : w < 100) (hk9 : V G yX9_greatestWork cX9_greatestWork 7 (some .int) 1 0 0 65 [.ref 39, .int (nI lim), .int (nI p), .int x, .int (nI w), .int (nI (gwS r wk wo w n)), .int (nI n)] [] (Mm dc J L) Q) (k : Nat) : ∀ i, i + k = n → V G yX9_greatestWork cX9_greatestWork 7 (some .int) 1 0 0 17 [.ref 39, .int (nI lim), .int (nI p), .int x, .int (nI w), .int (nI (gwS r wk wo w i)), .int (nI i)] [] (Mm dc J L) Q := by
  induction k with
  | zero =>
    intro i hi
    refine v_ild6 dX9_greatestWork_17 ?_
    refine v_ald0 dX9_greatestWork_19 ?_
    refine v_getI dX9_greatestWork_20 fl_X9_224 (by first | rfl | exact lay_door (by omega) | exact lay_dt (by omega) | exact lay_da (by omega) | exact lay_sh (by omega) | exact lay_se (by omega)) rfl (by omega) ?_
    refine v_e0 (congrArg Value.int (show _ = nI n from hnn)) ?_
    refine v_icmp_ge (tgt := 65) dX9_greatestWork_23 (by decide) (fun h23 => ?_) (fun h23 => absurd (nI_le (by omega) (by omega)) h23)
    obtain rfl : i = n := by omega
    exact hk9
  | succ k ih =>
    intro i hi
    refine v_ild6 dX9_greatestWork_17 ?_
    refine v_ald0 dX9_greatestWork_19 ?_
    refine v_getI dX9_greatestWork_20 fl_X9_224 (by first | rfl | exact lay_door (by omega) | exact lay_dt (by omega) | exact lay_da (by omega) | exact lay_sh (by omega) | exact lay_se (by omega)) rfl (by omega) ?_
    refine v_e0 (congrArg Value.int (show _ = nI n from hnn)) ?_
    refine v_icmp_ge (tgt := 65) dX9_greatestWork_23 (by decide) (fun h23 => absurd h23 (nI_ge (by omega) (by omega))) (fun h23 => ?_)
    refine v_ild5 dX9_greatestWork_26 ?_
    refine v_ald0 dX9_greatestWork_28 ?_
    refine v_getP (q := 66) dX9_greatestWork_29 fl_X9_103 (by first | rfl | exact lay_door (by omega) | exact lay_dt (by omega) | exact lay_da (by omega) | exact lay_sh (by omega) | exact lay_se (by omega)) rfl (by omega) rfl ?_
    refine v_ild6 dX9_greatestWork_32 ?_
    refine v_iald dX9_greatestWork_34 (by first | rfl | exact lay_door (by omega) | exact lay_dt (by omega) | exact lay_da (by omega) | exact lay_sh (by omega) | exact lay_se (by omega)) (by omega) ⟨rfl, by omega, by decide⟩ ?_
    refine v_ild4 dX9_greatestWork_35 ?_
    refine v_icmp_ne (tgt := 55) dX9_greatestWork_37 (by decide) (fun h37 => ?_) (fun h37 => ?_)
    · have e37 : ¬ r i = w := fun z => h37 (by rw [(hr i (by omega)).1, z])
      refine v_icN (n := 0) dX9_greatestWork_55 (by decide) ?_
      refine v_iadd dX9_greatestWork_56 ?_
      refine v_ist5 dX9_greatestWork_57 rfl ?_
      refine v_inc6 dX9_greatestWork_59 rfl ?_
      refine v_goto (tgt := 17) dX9_greatestWork_62 (by decide) ?_
      have e9 : gwS r wk wo w (i + 1) = gwS r wk wo w i := by simp only [gwS]; rw [if_neg e37, Nat.add_zero]
      have h9 := ih (i + 1) (by omega)
      rw [e9] at h9
      rw [i_add0, nI_1 i]
      exact h9
    · have hwi := hb i (by omega)
      have e37 : r i = w := (nI_eq (by have := (hr i (by omega)).2; omega) (by omega)).mp ((hr i (by omega)).1.symm.trans h37)
      refine v_ald0 dX9_greatestWork_40 ?_
      refine v_getP (q := 69) dX9_greatestWork_41 fl_X9_112 (by first | rfl | exact lay_door (by omega) | exact lay_dt (by omega) | exact lay_da (by omega) | exact lay_sh (by omega) | exact lay_se (by omega)) rfl (by omega) rfl ?_
      refine v_ald0 dX9_greatestWork_44 ?_
      refine v_getP (q := 65) dX9_greatestWork_45 fl_X9_100 (by first | rfl | exact lay_door (by omega) | exact lay_dt (by omega) | exact lay_da (by omega) | exact lay_sh (by omega) | exact lay_se (by omega)) rfl (by omega) rfl ?_
      refine v_ild6 dX9_greatestWork_48 ?_
      refine v_iald dX9_greatestWork_50 (by first | rfl | exact lay_door (by omega) | exact lay_dt (by omega) | exact lay_da (by omega) | exact lay_sh (by omega) | exact lay_se (by omega)) (by omega) ⟨rfl, by omega, by decide⟩ ?_
      refine v_iald dX9_greatestWork_51 (by first | rfl | exact lay_door (by omega) | exact lay_dt (by omega) | exact lay_da (by omega) | exact lay_sh (by omega) | exact lay_se (by omega)) (by omega) ⟨hwi.1, hwi.2, by decide⟩ ?_
      refine v_goto (tgt := 56) dX9_greatestWork_52 (by decide) ?_
      refine v_iadd dX9_greatestWork_56 ?_
      refine v_ist5 dX9_greatestWork_57 rfl ?_
      refine v_inc6 dX9_greatestWork_59 rfl ?_
      refine v_goto (tgt := 17) dX9_greatestWork_62 (by decide) ?_
      have e9 : gwS r wk wo w (i + 1) = gwS r wk wo w i + wo (wk i) := by simp only [gwS]; rw [if_pos e37]
      have h9 := ih (i + 1) (by omega)
      rw [e9] at h9
      rw [(ho (wk i) hwi.2).1, nI_add, nI_1 i]
      exact h9

set_option maxRecDepth 4000 in
theorem lp_gw {G : GG} {dc : Nat} {J : Nat → Nat → Int32} {L : Nat → Nat → Int64} {r : Nat → Nat} {n : Nat} {wk wo : Nat → Nat} {lim p : Nat} (hn : n ≤ 6) (hnn : J 39 36 = nI n) (hr : Wk n J r) (hb : Wb n J wk) (ho : Wo J wo) (hlim : lim ≤ 24) (hp : p ≤ 100) (k : Nat) : ∀ w, w + k = p → gAll J r wk wo n lim w → ∀ u v : Value, V G yX9_greatestWork cX9_greatestWork 7 (some .int) 1 0 0 5 [.ref 39, .int (nI lim), .int (nI p), .int (nI (gMx r wk wo n w)), .int (nI w), u, v] [] (Mm dc J L) (Is (some (.int (if gAll J r wk wo n lim p then nI (gMx r wk wo n p) else -1))) (Mm dc J L)) := by
  induction k with
  | zero =>
    intro w hw hA u v
    have hs9 : ∀ w, gwS r wk wo w n ≤ 144 := fun w => Nat.le_trans (gwS_le (fun j hj => (ho (wk j) (hb j hj).2).2)) (by omega)
    have hm9 := gMx_le hs9 w
    have hs8 := hs9 w
    refine v_ild4 dX9_greatestWork_5 ?_
    refine v_ild2 dX9_greatestWork_7 ?_
    refine v_icmp_ge (tgt := 101) dX9_greatestWork_8 (by decide) (fun h8 => ?_) (fun h8 => absurd (nI_le (by omega) (by omega)) h8)
    refine v_ild3 dX9_greatestWork_101 ?_
    exact v_retI dX9_greatestWork_102 trivial (by obtain rfl : w = p := (by omega); rw [if_pos hA]; exact ⟨rfl, rfl⟩)
  | succ k ih =>
    intro w hw hA u v
    have hs9 : ∀ w, gwS r wk wo w n ≤ 144 := fun w => Nat.le_trans (gwS_le (fun j hj => (ho (wk j) (hb j hj).2).2)) (by omega)
    have hm9 := gMx_le hs9 w
    have hs8 := hs9 w
    refine v_ild4 dX9_greatestWork_5 ?_
    refine v_ild2 dX9_greatestWork_7 ?_
    refine v_icmp_ge (tgt := 101) dX9_greatestWork_8 (by decide) (fun h8 => absurd h8 (nI_ge (by omega) (by omega))) (fun h8 => ?_)
    refine v_icN (n := 0) dX9_greatestWork_11 (by decide) ?_
    refine v_ist5 dX9_greatestWork_12 rfl ?_
    refine v_icN (n := 0) dX9_greatestWork_14 (by decide) ?_
    refine v_ist6 dX9_greatestWork_15 rfl ?_
    refine lp_gwi hn hnn hr hb ho hlim hp (by omega) ?_ n 0 (by omega)
    refine v_ild5 dX9_greatestWork_65 ?_
    refine v_ild1 dX9_greatestWork_67 ?_
    refine v_icmp_gt (tgt := 80) dX9_greatestWork_68 (by decide) (fun h68 => ?_) (fun h68 => ?_)
    · refine v_icm1 dX9_greatestWork_80 ?_
      exact v_retI dX9_greatestWork_81 trivial (by refine ⟨?_, rfl⟩; rw [if_neg (fun z : gAll J r wk wo n lim p => nI_nlt (z w (by omega)).1 (by omega) h68)])
    · refine v_ald0 dX9_greatestWork_71 ?_
      refine v_ild4 dX9_greatestWork_72 ?_
      refine v_V1 (c_X9_hangs hn hnn hr hb rfl (by omega)) lk_X9_227 dX9_greatestWork_74 (by decide) (Nat.le_of_ble_eq_true rfl) (by first | rfl | exact lay_door (by omega) | exact lay_dt (by omega) | exact lay_da (by omega) | exact lay_sh (by omega) | exact lay_se (by omega)) (show _ < 78 + 3 * _ by omega) ?_
      refine v_ifne_b (tgt := 82) dX9_greatestWork_77 (by decide) (fun h77 => ?_) (fun h77 => ?_)
      · refine v_ild5 dX9_greatestWork_82 ?_
        refine v_ild3 dX9_greatestWork_84 ?_
        refine v_icmp_le (tgt := 93) dX9_greatestWork_85 (by decide) (fun h85 => ?_) (fun h85 => ?_)
        · refine v_ild3 dX9_greatestWork_93 ?_
          refine v_ist3 dX9_greatestWork_94 rfl ?_
          refine v_inc4 dX9_greatestWork_95 rfl ?_
          refine v_goto (tgt := 5) dX9_greatestWork_98 (by decide) ?_
          have e68 : gwS r wk wo w n ≤ lim := Nat.le_of_not_lt fun z => h68 (nI_lt z (by omega))
          have e9 : gMx r wk wo n (w + 1) = gMx r wk wo n w := if_pos ((nI_leI (by omega) (by omega)).mp h85)
          have h9 := ih (w + 1) (by omega) (fun w' hw' => by
            by_cases e : w' = w
            · subst e; exact ⟨e68, h77⟩
            · exact hA w' (by omega))
          rw [e9] at h9
          rw [nI_1 w]
          exact h9 _ _
        · refine v_ild5 dX9_greatestWork_88 ?_
          refine v_goto (tgt := 94) dX9_greatestWork_90 (by decide) ?_
          refine v_ist3 dX9_greatestWork_94 rfl ?_
          refine v_inc4 dX9_greatestWork_95 rfl ?_
          refine v_goto (tgt := 5) dX9_greatestWork_98 (by decide) ?_
          have e68 : gwS r wk wo w n ≤ lim := Nat.le_of_not_lt fun z => h68 (nI_lt z (by omega))
          have e9 : gMx r wk wo n (w + 1) = gwS r wk wo w n := if_neg (fun z => h85 (nI_le z (by omega)))
          have h9 := ih (w + 1) (by omega) (fun w' hw' => by
            by_cases e : w' = w
            · subst e; exact ⟨e68, h77⟩
            · exact hA w' (by omega))
          rw [e9] at h9
          rw [nI_1 w]
          exact h9 _ _
      · refine v_icm1 dX9_greatestWork_80 ?_
        exact v_retI dX9_greatestWork_81 trivial (by refine ⟨?_, rfl⟩; rw [if_neg (fun z : gAll J r wk wo n lim p => h77 (z w (by omega)).2)])

set_option maxRecDepth 4000 in
theorem c_X9_greatestWork {G : GG} {dc : Nat} {J : Nat → Nat → Int32} {L : Nat → Nat → Int64} {r : Nat → Nat} {n : Nat} {wk wo : Nat → Nat} {lim p : Nat} {x y : Int32} (hn : n ≤ 6) (hnn : J 39 36 = nI n) (hr : Wk n J r) (hb : Wb n J wk) (ho : Wo J wo) (hlim : lim ≤ 24) (hp : p ≤ 100) (hx : x = nI lim) (hy : y = nI p) : Cn G yX9_greatestWork cX9_greatestWork 7 (some .int) 1 0 0 [.ref 39, .int x, .int y] (Mm dc J L) (Is (some (.int (if gAll J r wk wo n lim p then nI (gMx r wk wo n p) else -1))) (Mm dc J L)) := by
  subst hx
  subst hy
  refine Cn.of' (by decide) (Nat.le_of_ble_eq_true rfl) rfl ?_
  refine v_icN (n := 0) dX9_greatestWork_0 (by decide) ?_
  refine v_ist3 dX9_greatestWork_1 rfl ?_
  refine v_icN (n := 0) dX9_greatestWork_2 (by decide) ?_
  refine v_ist4 dX9_greatestWork_3 rfl ?_
  exact lp_gw hn hnn hr hb ho hlim hp p 0 (by omega) (fun w hw => absurd hw (Nat.not_lt_zero _)) _ _

/-- what the cut may write beside what it answers -/
def agC (I J : Nat → Nat → Int32) : Prop := ∀ x j, x ≠ 65 → x ≠ 66 → x ≠ 67 → x ≠ 69 → ¬ (x = 39 ∧ j = 36) → J x j = I x j
def pPr (I : Nat → Nat → Int32) (dc b : Nat) : Bool := decide (0 < ct (mOf I (nI b)) dc)
def qWo (I : Nat → Nat → Int32) (b d : Nat) : Bool := mOf I (nI b) d && pMba I d
def woF (I : Nat → Nat → Int32) (dc b : Nat) : Nat := ct (qWo I b) dc
def gan (p : Nat → Bool) : Nat → Nat → Nat
  | 0 => fun _ => 0
  | b + 1 => if p b then (fun i => if i = ct p b then b else gan p b i) else gan p b
theorem gan_t {p : Nat → Bool} {b : Nat} (h : p b = true) : gan p (b + 1) = fun i => if i = ct p b then b else gan p b i := by simp only [gan, h, if_true]
theorem gan_f {p : Nat → Bool} {b : Nat} (h : p b = false) : gan p (b + 1) = gan p b := by simp [gan, h]
theorem gan_lt {p : Nat → Bool} : ∀ {b i : Nat}, i < ct p b → gan p b i < b
  | 0, i, h => absurd h (Nat.not_lt_zero _)
  | b + 1, i, h => by
    cases hp : p b with
    | true =>
      rw [gan_t hp]
      rw [ct_t hp] at h
      by_cases e : i = ct p b
      · show (if i = ct p b then b else gan p b i) < b + 1
        rw [if_pos e]; omega
      · show (if i = ct p b then b else gan p b i) < b + 1
        rw [if_neg e]
        have := gan_lt (p := p) (b := b) (i := i) (by omega)
        omega
    | false =>
      rw [gan_f hp]
      rw [ct_f hp] at h
      have := gan_lt (p := p) (b := b) (i := i) h
      omega
def CS (I : Nat → Nat → Int32) (dc lim b : Nat) (J : Nat → Nat → Int32) : Prop := (agC I J) ∧ (J 39 36 = nI (ct (pPr I dc) b)) ∧ (∀ i, i < ct (pPr I dc) b → J 65 i = nI (gan (pPr I dc) b i) ∧ J 66 i = nI 0) ∧ (∀ c, c < b → J 69 c = nI (woF I dc c) ∧ woF I dc c ≤ lim)
theorem CS.ag {I : Nat → Nat → Int32} {dc lim b : Nat} {J : Nat → Nat → Int32} (h : CS I dc lim b J) : agC I J := h.1
theorem CS.nn {I : Nat → Nat → Int32} {dc lim b : Nat} {J : Nat → Nat → Int32} (h : CS I dc lim b J) : J 39 36 = nI (ct (pPr I dc) b) := h.2.1
theorem CS.bl {I : Nat → Nat → Int32} {dc lim b : Nat} {J : Nat → Nat → Int32} (h : CS I dc lim b J) : ∀ i, i < ct (pPr I dc) b → J 65 i = nI (gan (pPr I dc) b i) ∧ J 66 i = nI 0 := h.2.2.1
theorem CS.wo {I : Nat → Nat → Int32} {dc lim b : Nat} {J : Nat → Nat → Int32} (h : CS I dc lim b J) : ∀ c, c < b → J 69 c = nI (woF I dc c) ∧ woF I dc c ≤ lim := h.2.2.2

set_option maxRecDepth 4000 in
theorem lp_cuD {G : GG} {dc : Nat} {I J : Nat → Nat → Int32} {L : Nat → Nat → Int64} {lim : Nat} {b : Nat} {Q : Option Value → Mem → Prop} (hW : Wm dc I) (hag : agC I J) (hlim : lim ≤ 24) (hb : b < 6) (hk9 : V G yX9_cut cX9_cut 8 (some .int) 2 0 0 98 [.ref 39, .int (nI lim), .int (nI b), .int (bI (0 < ct (mOf I (nI b)) dc)), .int (nI dc), UU, UU, UU] [] (Mm dc (u2 J 69 b (nI (ct (qWo I b) dc))) L) Q) (k : Nat) : ∀ i, i + k = dc → V G yX9_cut cX9_cut 8 (some .int) 2 0 0 44 [.ref 39, .int (nI lim), .int (nI b), .int (bI (0 < ct (mOf I (nI b)) i)), .int (nI i), UU, UU, UU] [] (Mm dc (u2 J 69 b (nI (ct (qWo I b) i))) L) Q := by
  induction k with
  | zero =>
    intro i hi
    have hc9 := hW.1
    have h45 : (u2 J 69 b (nI (ct (qWo I b) i))) 45 i = I 45 i := ((u2_a _ _ _ _ (by decide)).trans (hag 45 i (by decide) (by decide) (by decide) (by decide) (by omega)))
    have h52 : (u2 J 69 b (nI (ct (qWo I b) i))) 52 i = I 52 i := ((u2_a _ _ _ _ (by decide)).trans (hag 52 i (by decide) (by decide) (by decide) (by decide) (by omega)))
    have h40 : (u2 J 69 b (nI (ct (qWo I b) i))) 40 i = I 40 i := ((u2_a _ _ _ _ (by decide)).trans (hag 40 i (by decide) (by decide) (by decide) (by decide) (by omega)))
    refine v_ild4 dX9_cut_44 ?_
    refine v_ald0 dX9_cut_46 ?_
    refine v_getI dX9_cut_47 fl_X9_139 (by first | rfl | exact lay_door (by omega) | exact lay_dt (by omega) | exact lay_da (by omega) | exact lay_sh (by omega) | exact lay_se (by omega)) rfl (by omega) ?_
    refine v_e0 (congrArg Value.int (show _ = nI dc from ((u2_a _ _ _ _ (by decide)).trans (hag 39 17 (by decide) (by decide) (by decide) (by decide) (by omega))).trans hW.2.1)) ?_
    refine v_icmp_ge (tgt := 98) dX9_cut_50 (by decide) (fun h50 => ?_) (fun h50 => absurd (nI_le (by omega) (by omega)) h50)
    obtain rfl : i = dc := by omega
    exact hk9
  | succ k ih =>
    intro i hi
    have hc9 := hW.1
    have h45 : (u2 J 69 b (nI (ct (qWo I b) i))) 45 i = I 45 i := ((u2_a _ _ _ _ (by decide)).trans (hag 45 i (by decide) (by decide) (by decide) (by decide) (by omega)))
    have h52 : (u2 J 69 b (nI (ct (qWo I b) i))) 52 i = I 52 i := ((u2_a _ _ _ _ (by decide)).trans (hag 52 i (by decide) (by decide) (by decide) (by decide) (by omega)))
    have h40 : (u2 J 69 b (nI (ct (qWo I b) i))) 40 i = I 40 i := ((u2_a _ _ _ _ (by decide)).trans (hag 40 i (by decide) (by decide) (by decide) (by decide) (by omega)))
    refine v_ild4 dX9_cut_44 ?_
    refine v_ald0 dX9_cut_46 ?_
    refine v_getI dX9_cut_47 fl_X9_139 (by first | rfl | exact lay_door (by omega) | exact lay_dt (by omega) | exact lay_da (by omega) | exact lay_sh (by omega) | exact lay_se (by omega)) rfl (by omega) ?_
    refine v_e0 (congrArg Value.int (show _ = nI dc from ((u2_a _ _ _ _ (by decide)).trans (hag 39 17 (by decide) (by decide) (by decide) (by decide) (by omega))).trans hW.2.1)) ?_
    refine v_icmp_ge (tgt := 98) dX9_cut_50 (by decide) (fun h50 => absurd h50 (nI_ge (by omega) (by omega))) (fun h50 => ?_)
    refine v_ald0 dX9_cut_53 ?_
    refine v_getP (q := 40) dX9_cut_54 fl_X9_7 (by first | rfl | exact lay_door (by omega) | exact lay_dt (by omega) | exact lay_da (by omega) | exact lay_sh (by omega) | exact lay_se (by omega)) rfl (by omega) rfl ?_
    refine v_ild4 dX9_cut_57 ?_
    refine v_iald dX9_cut_59 (by first | rfl | exact lay_door (by omega) | exact lay_dt (by omega) | exact lay_da (by omega) | exact lay_sh (by omega) | exact lay_se (by omega)) (by omega) ⟨rfl, by omega, by decide⟩ ?_
    refine v_ild2 dX9_cut_60 ?_
    refine v_icmp_eq (tgt := 67) dX9_cut_61 (by decide) (fun h61 => ?_) (fun h61 => ?_)
    · have e61 : I 40 i = nI b := h40.symm.trans h61
      refine v_icN (n := 1) dX9_cut_67 (by decide) ?_
      refine v_ist3 dX9_cut_68 rfl ?_
      refine v_ald0 dX9_cut_69 ?_
      refine v_getP (q := 69) dX9_cut_70 fl_X9_112 (by first | rfl | exact lay_door (by omega) | exact lay_dt (by omega) | exact lay_da (by omega) | exact lay_sh (by omega) | exact lay_se (by omega)) rfl (by omega) rfl ?_
      refine v_ild2 dX9_cut_73 ?_
      refine v_dup2 dX9_cut_74 ?_
      refine v_iald dX9_cut_75 (by first | rfl | exact lay_door (by omega) | exact lay_dt (by omega) | exact lay_da (by omega) | exact lay_sh (by omega) | exact lay_se (by omega)) (by omega) ⟨rfl, by omega, by decide⟩ ?_
      refine v_e0 (congrArg Value.int (u2_s _ _ _ _)) ?_
      refine v_ald0 dX9_cut_76 ?_
      refine v_ild4 dX9_cut_77 ?_
      refine v_V1 (c_X9_isToBeAsked rfl (by omega)) lk_X9_196 dX9_cut_79 (by decide) (Nat.le_of_ble_eq_true rfl) (by first | rfl | exact lay_door (by omega) | exact lay_dt (by omega) | exact lay_da (by omega) | exact lay_sh (by omega) | exact lay_se (by omega)) (show _ < 78 + 3 * _ by omega) ?_
      refine v_ifeq_b (tgt := 89) dX9_cut_82 (by decide) (fun h82 => ?_) (fun h82 => ?_)
      · refine v_icN (n := 0) dX9_cut_89 (by decide) ?_
        refine v_iadd dX9_cut_90 ?_
        refine v_iast dX9_cut_91 (by first | rfl | exact lay_door (by omega) | exact lay_dt (by omega) | exact lay_da (by omega) | exact lay_sh (by omega) | exact lay_se (by omega)) (by omega) ⟨rfl, by omega, by decide⟩ ?_
        refine v_inc4 dX9_cut_92 rfl ?_
        refine v_goto (tgt := 44) dX9_cut_95 (by decide) ?_
        have e1 : mOf I (nI b) i = true := decide_eq_true e61
        have e3 : nI 1 = bI (0 < ct (mOf I (nI b)) (i + 1)) := (bI_t (by rw [ct_t e1]; omega)).symm
        have e2 : qWo I b i = false := by rw [qWo, pMba, decide_eq_false (show ¬ mba I i from fun z => h82 (by rw [h45, h52]; exact z)), Bool.and_false]
        have h9 := ih (i + 1) (by omega)
        rw [ct_f e2, ← e3] at h9
        rw [u2_u, i_add0, nI_1 i]
        exact h9
      · refine v_icN (n := 1) dX9_cut_85 (by decide) ?_
        refine v_goto (tgt := 90) dX9_cut_86 (by decide) ?_
        refine v_iadd dX9_cut_90 ?_
        refine v_iast dX9_cut_91 (by first | rfl | exact lay_door (by omega) | exact lay_dt (by omega) | exact lay_da (by omega) | exact lay_sh (by omega) | exact lay_se (by omega)) (by omega) ⟨rfl, by omega, by decide⟩ ?_
        refine v_inc4 dX9_cut_92 rfl ?_
        refine v_goto (tgt := 44) dX9_cut_95 (by decide) ?_
        have e1 : mOf I (nI b) i = true := decide_eq_true e61
        have e3 : nI 1 = bI (0 < ct (mOf I (nI b)) (i + 1)) := (bI_t (by rw [ct_t e1]; omega)).symm
        have e2 : qWo I b i = true := by rw [qWo, e1, pMba, decide_eq_true (show mba I i from by have z := h82; rw [h45, h52] at z; exact z)]; rfl
        have h9 := ih (i + 1) (by omega)
        rw [ct_t e2, ← e3] at h9
        rw [u2_u, nI_add, nI_1 i]
        exact h9
    · have e61 : ¬ I 40 i = nI b := fun z => h61 (h40.trans z)
      refine v_goto (tgt := 92) dX9_cut_64 (by decide) ?_
      refine v_inc4 dX9_cut_92 rfl ?_
      refine v_goto (tgt := 44) dX9_cut_95 (by decide) ?_
      have e1 : mOf I (nI b) i = false := decide_eq_false e61
      have e2 : qWo I b i = false := by rw [qWo, e1]; rfl
      have h9 := ih (i + 1) (by omega)
      rw [ct_f e2, ct_f e1] at h9
      rw [nI_1 i]
      exact h9

theorem CS_n {I J : Nat → Nat → Int32} {dc lim b : Nat} (h : CS I dc lim b J) (hp : pPr I dc b = false) (hw : woF I dc b ≤ lim) : CS I dc lim (b + 1) (u2 J 69 b (nI (woF I dc b))) := ⟨
       (fun x j h1 h2 h3 h4 h5 => by rw [u2_a _ _ _ _ h4]; exact h.ag x j h1 h2 h3 h4 h5)
  ,    (by rw [u2_a _ _ _ _ (by decide), ct_f hp]; exact h.nn)
  ,    (fun i hi => by
    rw [ct_f hp] at hi
    rw [gan_f hp, u2_a _ _ _ _ (by decide), u2_a _ _ _ _ (by decide)]
    exact h.bl i hi)
  ,    (fun c hc => by
    by_cases e : c = b
    · subst e; rw [u2_s]; exact ⟨rfl, hw⟩
    · rw [u2_k _ _ _ _ e]; exact h.wo c (by omega))⟩
theorem CS_y {I J : Nat → Nat → Int32} {dc lim b : Nat} (h : CS I dc lim b J) (hp : pPr I dc b = true) (hw : woF I dc b ≤ lim) : CS I dc lim (b + 1) (u2 (u2 (u2 (u2 J 69 b (nI (woF I dc b))) 65 (ct (pPr I dc) b) (nI b)) 66 (ct (pPr I dc) b) (nI 0)) 39 36 (nI (ct (pPr I dc) b + 1))) := ⟨
       (fun x j h1 h2 h3 h4 h5 => by
    rw [show u2 (u2 (u2 (u2 J 69 b (nI (woF I dc b))) 65 (ct (pPr I dc) b) (nI b)) 66 (ct (pPr I dc) b) (nI 0)) 39 36 (nI (ct (pPr I dc) b + 1)) x j = u2 (u2 (u2 J 69 b (nI (woF I dc b))) 65 (ct (pPr I dc) b) (nI b)) 66 (ct (pPr I dc) b) (nI 0) x j from if_neg h5, u2_a _ _ _ _ h2, u2_a _ _ _ _ h1, u2_a _ _ _ _ h4]
    exact h.ag x j h1 h2 h3 h4 h5)
  ,    (by rw [u2_s, ct_t hp])
  ,    (fun i hi => by
    rw [ct_t hp] at hi
    rw [gan_t hp]
    show u2 (u2 J 69 b (nI (woF I dc b))) 65 (ct (pPr I dc) b) (nI b) 65 i = nI (if i = ct (pPr I dc) b then b else gan (pPr I dc) b i) ∧ u2 (u2 (u2 J 69 b (nI (woF I dc b))) 65 (ct (pPr I dc) b) (nI b)) 66 (ct (pPr I dc) b) (nI 0) 66 i = nI 0
    by_cases e : i = ct (pPr I dc) b
    · rw [e, if_pos rfl, u2_s, u2_s]; exact ⟨rfl, rfl⟩
    · rw [if_neg e, u2_k _ _ _ _ e, u2_k _ _ _ _ e, u2_a _ _ _ _ (by decide), u2_a _ _ _ _ (by decide), u2_a _ _ _ _ (by decide)]
      exact h.bl i (by omega))
  ,    (fun c hc => by
    rw [u2_a _ _ _ _ (by decide), u2_a _ _ _ _ (by decide), u2_a _ _ _ _ (by decide)]
    by_cases e : c = b
    · subst e; rw [u2_s]; exact ⟨rfl, hw⟩
    · rw [u2_k _ _ _ _ e]; exact h.wo c (by omega))⟩
theorem woF_le (I : Nat → Nat → Int32) (dc b : Nat) : woF I dc b ≤ dc := ct_le _ _

set_option maxRecDepth 4000 in
theorem lp_cuB {G : GG} {dc : Nat} {I : Nat → Nat → Int32} {L : Nat → Nat → Int64} {lim : Nat} {Q : Option Value → Mem → Prop} (hW : Wm dc I) (hlim : lim ≤ 24) (hkN : ∀ J u v, CS I dc lim 6 J → V G yX9_cut cX9_cut 8 (some .int) 2 0 0 158 [.ref 39, .int (nI lim), .int (nI 6), u, v, UU, UU, UU] [] (Mm dc J L) Q) (hkR : ∀ J b, b < 6 → ¬ woF I dc b ≤ lim → ∀ u v, agC I J → V G yX9_cut cX9_cut 8 (some .int) 2 0 0 108 [.ref 39, .int (nI lim), .int (nI b), u, v, UU, UU, UU] [] (Mm dc J L) Q) (k : Nat) : ∀ b, b + k = 6 → ∀ J (u v : Value), CS I dc lim b J → V G yX9_cut cX9_cut 8 (some .int) 2 0 0 26 [.ref 39, .int (nI lim), .int (nI b), u, v, UU, UU, UU] [] (Mm dc J L) Q := by
  induction k with
  | zero =>
    intro b hb J u v hC
    have hc9 := hW.1
    have hwl := woF_le I dc b
    refine v_ild2 dX9_cut_26 ?_
    refine v_bipush (v := nI 6) dX9_cut_27 (by decide) ?_
    refine v_icmp_ge (tgt := 158) dX9_cut_29 (by decide) (fun h29 => ?_) (fun h29 => absurd (nI_le (by omega) (by omega)) h29)
    obtain rfl : b = 6 := by omega
    exact hkN _ _ _ hC
  | succ k ih =>
    intro b hb J u v hC
    have hc9 := hW.1
    have hwl := woF_le I dc b
    refine v_ild2 dX9_cut_26 ?_
    refine v_bipush (v := nI 6) dX9_cut_27 (by decide) ?_
    refine v_icmp_ge (tgt := 158) dX9_cut_29 (by decide) (fun h29 => absurd h29 (nI_ge (by omega) (by omega))) (fun h29 => ?_)
    refine v_icN (n := 0) dX9_cut_32 (by decide) ?_
    refine v_ist3 dX9_cut_33 rfl ?_
    refine v_ald0 dX9_cut_34 ?_
    refine v_getP (q := 69) dX9_cut_35 fl_X9_112 (by first | rfl | exact lay_door (by omega) | exact lay_dt (by omega) | exact lay_da (by omega) | exact lay_sh (by omega) | exact lay_se (by omega)) rfl (by omega) rfl ?_
    refine v_ild2 dX9_cut_38 ?_
    refine v_icN (n := 0) dX9_cut_39 (by decide) ?_
    refine v_iast dX9_cut_40 (by first | rfl | exact lay_door (by omega) | exact lay_dt (by omega) | exact lay_da (by omega) | exact lay_sh (by omega) | exact lay_se (by omega)) (by omega) ⟨rfl, by omega, by decide⟩ ?_
    refine v_icN (n := 0) dX9_cut_41 (by decide) ?_
    refine v_ist4 dX9_cut_42 rfl ?_
    refine lp_cuD (I := I) (J := J) (b := b) hW hC.ag hlim (by omega) ?_ dc 0 (by omega)
    refine v_ald0 dX9_cut_98 ?_
    refine v_getP (q := 69) dX9_cut_99 fl_X9_112 (by first | rfl | exact lay_door (by omega) | exact lay_dt (by omega) | exact lay_da (by omega) | exact lay_sh (by omega) | exact lay_se (by omega)) rfl (by omega) rfl ?_
    refine v_ild2 dX9_cut_102 ?_
    refine v_iald dX9_cut_103 (by first | rfl | exact lay_door (by omega) | exact lay_dt (by omega) | exact lay_da (by omega) | exact lay_sh (by omega) | exact lay_se (by omega)) (by omega) ⟨rfl, by omega, by decide⟩ ?_
    refine v_e0 (congrArg Value.int (u2_s _ _ _ _)) ?_
    refine v_ild1 dX9_cut_104 ?_
    refine v_icmp_le (tgt := 115) dX9_cut_105 (by decide) (fun h105 => ?_) (fun h105 => ?_)
    · have e105 : woF I dc b ≤ lim := (nI_leI (by omega) (by omega)).mp h105
      refine v_ild3 dX9_cut_115 ?_
      refine v_ifne_b (tgt := 122) dX9_cut_116 (by decide) (fun h116 => ?_) (fun h116 => ?_)
      · have hp9 : pPr I dc b = true := decide_eq_true h116
        have hcb := ct_le (pPr I dc) b
        refine v_ald0 dX9_cut_122 ?_
        refine v_getP (q := 65) dX9_cut_123 fl_X9_100 (by first | rfl | exact lay_door (by omega) | exact lay_dt (by omega) | exact lay_da (by omega) | exact lay_sh (by omega) | exact lay_se (by omega)) rfl (by omega) rfl ?_
        refine v_ald0 dX9_cut_126 ?_
        refine v_getI dX9_cut_127 fl_X9_224 (by first | rfl | exact lay_door (by omega) | exact lay_dt (by omega) | exact lay_da (by omega) | exact lay_sh (by omega) | exact lay_se (by omega)) rfl (by omega) ?_
        refine v_ild2 dX9_cut_130 ?_
        refine v_iast dX9_cut_131 (by first | rfl | exact lay_door (by omega) | exact lay_dt (by omega) | exact lay_da (by omega) | exact lay_sh (by omega) | exact lay_se (by omega)) (by omega) ⟨((u2_a _ _ _ _ (by decide)).trans hC.nn), by omega, by decide⟩ ?_
        refine v_ald0 dX9_cut_132 ?_
        refine v_getP (q := 66) dX9_cut_133 fl_X9_103 (by first | rfl | exact lay_door (by omega) | exact lay_dt (by omega) | exact lay_da (by omega) | exact lay_sh (by omega) | exact lay_se (by omega)) rfl (by omega) rfl ?_
        refine v_ald0 dX9_cut_136 ?_
        refine v_getI dX9_cut_137 fl_X9_224 (by first | rfl | exact lay_door (by omega) | exact lay_dt (by omega) | exact lay_da (by omega) | exact lay_sh (by omega) | exact lay_se (by omega)) rfl (by omega) ?_
        refine v_icN (n := 0) dX9_cut_140 (by decide) ?_
        refine v_iast dX9_cut_141 (by first | rfl | exact lay_door (by omega) | exact lay_dt (by omega) | exact lay_da (by omega) | exact lay_sh (by omega) | exact lay_se (by omega)) (by omega) ⟨((u2_a _ _ _ _ (by decide)).trans hC.nn), by omega, by decide⟩ ?_
        refine v_ald0 dX9_cut_142 ?_
        refine v_dupR dX9_cut_143 ?_
        refine v_getI dX9_cut_144 fl_X9_224 (by first | rfl | exact lay_door (by omega) | exact lay_dt (by omega) | exact lay_da (by omega) | exact lay_sh (by omega) | exact lay_se (by omega)) rfl (by omega) ?_
        refine v_icN (n := 1) dX9_cut_147 (by decide) ?_
        refine v_iadd dX9_cut_148 ?_
        refine v_putI dX9_cut_149 fl_X9_224 ft_9_36 (by first | rfl | exact lay_door (by omega) | exact lay_dt (by omega) | exact lay_da (by omega) | exact lay_sh (by omega) | exact lay_se (by omega)) rfl (by omega) ?_
        refine v_inc2 dX9_cut_152 rfl ?_
        refine v_goto (tgt := 26) dX9_cut_155 (by decide) ?_
        have e9 : (u2 (u2 (u2 J 69 b (nI (ct (qWo I b) dc))) 65 (ct (pPr I dc) b) (nI b)) 66 (ct (pPr I dc) b) (nI 0)) 39 36 + nI 1 = nI ((ct (pPr I dc) b) + 1) := by rw [show (u2 (u2 (u2 J 69 b (nI (ct (qWo I b) dc))) 65 (ct (pPr I dc) b) (nI b)) 66 (ct (pPr I dc) b) (nI 0)) 39 36 = nI (ct (pPr I dc) b) from ((u2_a _ _ _ _ (by decide)).trans hC.nn), nI_add]
        rw [nI_1 b, e9]
        exact ih (b + 1) (by omega) _ _ _ (CS_y hC hp9 e105)
      · have hp9 : pPr I dc b = false := decide_eq_false h116
        refine v_goto (tgt := 152) dX9_cut_119 (by decide) ?_
        refine v_inc2 dX9_cut_152 rfl ?_
        refine v_goto (tgt := 26) dX9_cut_155 (by decide) ?_
        rw [nI_1 b]
        exact ih (b + 1) (by omega) _ _ _ (CS_n hC hp9 e105)
    · exact hkR _ b (by omega) (fun z => h105 (nI_le z (by omega))) _ _ (fun x j h1 h2 h3 h4 h5 => by rw [u2_a _ _ _ _ h4]; exact hC.ag x j h1 h2 h3 h4 h5)
