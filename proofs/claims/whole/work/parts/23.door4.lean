/-- those of the first i that are such, in their order -/
def gaf (p : Nat → Bool) (g : Nat → Int32) : Nat → Nat → Int32
  | 0 => fun _ => 0
  | i + 1 => if p i then (fun j => if j = ct p i then g i else gaf p g i j) else gaf p g i
theorem gaf_t {p : Nat → Bool} {g : Nat → Int32} {i : Nat} (h : p i = true) : gaf p g (i + 1) = fun j => if j = ct p i then g i else gaf p g i j := by simp only [gaf, h, if_true]
theorem gaf_f {p : Nat → Bool} {g : Nat → Int32} {i : Nat} (h : p i = false) : gaf p g (i + 1) = gaf p g i := by simp [gaf, h]
theorem gaf_cong {p q : Nat → Bool} {g g2 : Nat → Int32} : ∀ {n : Nat}, (∀ k, k < n → p k = q k ∧ (p k = true → g k = g2 k)) → gaf p g n = gaf q g2 n
  | 0, _ => rfl
  | n + 1, h => by
    have h1 := gaf_cong (n := n) (fun k hk => h k (by omega))
    have h2 := ct_cong (n := n) (fun k hk => (h k (by omega)).1)
    obtain ⟨h3, h4⟩ := h n (by omega)
    cases hp : p n with
    | false => rw [gaf_f hp, gaf_f (by rw [← h3]; exact hp), h1]
    | true => rw [gaf_t hp, gaf_t (by rw [← h3]; exact hp), h1, h2, h4 hp]
/-- a head isn't struck -/
def pS (x : Int32) (j : Nat) : Bool := decide (¬ sbit x (nI j))

set_option maxRecDepth 4000 in
theorem lp_tho {G : GG} {dc : Nat} {J : Nat → Nat → Int32} {L : Nat → Nat → Int64} {d e h : Nat} {w : Int32} (hd : d < dc) (hdc : dc ≤ 24) (he : e < dc) (hne : e ≠ d) (hh : J (78 + 3 * e) 8 = nI h) (h12 : h ≤ 12) (k : Nat) : ∀ i, i + k = h → V G yX1_takeHeadsOf cX1_takeHeadsOf 4 none 1 0 0 7 [.ref (78 + 3 * d), .ref (78 + 3 * e), .int w, .int (nI i)] [] (Mm dc (pm J d (gaf (pS (J (78 + 3 * e) 9)) (J (78 + 3 * e + 2)) i) (ct (pS (J (78 + 3 * e) 9)) i)) L) (Is none (Mm dc (u2 (u2 (pm J d (gaf (pS (J (78 + 3 * e) 9)) (J (78 + 3 * e + 2)) h) (ct (pS (J (78 + 3 * e) 9)) h)) (78 + 3 * d) 12 w) (78 + 3 * e) 11 (J (78 + 3 * e) 11 + nI 1)) L)) := by
  induction k with
  | zero =>
    intro i hi
    refine v_ild3 dX1_takeHeadsOf_7 ?_
    refine v_ald1 dX1_takeHeadsOf_8 ?_
    refine v_getI dX1_takeHeadsOf_9 fl_X1_59 (by first | rfl | exact lay_door (by omega) | exact lay_dt (by omega) | exact lay_da (by omega) | exact lay_sh (by omega) | exact lay_se (by omega)) rfl (by omega) ?_
    refine v_icmp_ge (tgt := 39) dX1_takeHeadsOf_12 (by decide) (fun h12 => ?_) (fun h12 => absurd (by rw [pm_o J d (gaf (pS (J (78 + 3 * e) 9)) (J (78 + 3 * e + 2)) i) (ct (pS (J (78 + 3 * e) 9)) i) (by omega) (by omega), hh]; exact nI_le (by omega) (by omega)) h12)
    refine v_ald0 dX1_takeHeadsOf_39 ?_
    refine v_ild2 dX1_takeHeadsOf_40 ?_
    refine v_putI dX1_takeHeadsOf_41 fl_X1_22 ft_1_12 (by first | rfl | exact lay_door (by omega) | exact lay_dt (by omega) | exact lay_da (by omega) | exact lay_sh (by omega) | exact lay_se (by omega)) rfl (by omega) ?_
    refine v_ald1 dX1_takeHeadsOf_44 ?_
    refine v_dupR dX1_takeHeadsOf_45 ?_
    refine v_getI dX1_takeHeadsOf_46 fl_X1_75 (by first | rfl | exact lay_door (by omega) | exact lay_dt (by omega) | exact lay_da (by omega) | exact lay_sh (by omega) | exact lay_se (by omega)) rfl (by omega) ?_
    refine v_icN (n := 1) dX1_takeHeadsOf_49 (by decide) ?_
    refine v_iadd dX1_takeHeadsOf_50 ?_
    refine v_putI dX1_takeHeadsOf_51 fl_X1_75 ft_1_11 (by first | rfl | exact lay_door (by omega) | exact lay_dt (by omega) | exact lay_da (by omega) | exact lay_sh (by omega) | exact lay_se (by omega)) rfl (by omega) ?_
    exact v_retV dX1_takeHeadsOf_54 trivial (by rw [u2_a _ _ _ _ (show 78 + 3 * e ≠ 78 + 3 * d by omega), pm_o J d (gaf (pS (J (78 + 3 * e) 9)) (J (78 + 3 * e + 2)) i) (ct (pS (J (78 + 3 * e) 9)) i) (by omega) (by omega), show i = h by omega]; exact ⟨rfl, rfl⟩)
  | succ k ih =>
    intro i hi
    refine v_ild3 dX1_takeHeadsOf_7 ?_
    refine v_ald1 dX1_takeHeadsOf_8 ?_
    refine v_getI dX1_takeHeadsOf_9 fl_X1_59 (by first | rfl | exact lay_door (by omega) | exact lay_dt (by omega) | exact lay_da (by omega) | exact lay_sh (by omega) | exact lay_se (by omega)) rfl (by omega) ?_
    refine v_icmp_ge (tgt := 39) dX1_takeHeadsOf_12 (by decide) (fun h12 => absurd h12 (by rw [pm_o J d (gaf (pS (J (78 + 3 * e) 9)) (J (78 + 3 * e + 2)) i) (ct (pS (J (78 + 3 * e) 9)) i) (by omega) (by omega), hh]; exact nI_ge (by omega) (by omega))) (fun h12 => ?_)
    refine v_ald1 dX1_takeHeadsOf_15 ?_
    refine v_ild3 dX1_takeHeadsOf_16 ?_
    refine v_V1 (c_X1_isStruck he hdc) lk_X1_78 dX1_takeHeadsOf_17 (by decide) (Nat.le_of_ble_eq_true rfl) (by first | rfl | exact lay_door (by omega) | exact lay_dt (by omega) | exact lay_da (by omega) | exact lay_sh (by omega) | exact lay_se (by omega)) (show _ < 78 + 3 * _ by omega) ?_
    rw [pm_o J d (gaf (pS (J (78 + 3 * e) 9)) (J (78 + 3 * e + 2)) i) (ct (pS (J (78 + 3 * e) 9)) i) (show 78 + 3 * e ≠ 78 + 3 * d by omega) (by omega)]
    refine v_ifne_b (tgt := 33) dX1_takeHeadsOf_20 (by decide) (fun h20 => ?_) (fun h20 => ?_)
    · refine v_inc3 dX1_takeHeadsOf_33 rfl ?_
      refine v_goto (tgt := 7) dX1_takeHeadsOf_36 (by decide) ?_
      rw [nI_1 i]
      first | (rw [pm_s J d (gaf (pS (J (78 + 3 * e) 9)) (J (78 + 3 * e + 2)) i) (gaf (pS (J (78 + 3 * e) 9)) (J (78 + 3 * e + 2)) (i + 1)) (ct (pS (J (78 + 3 * e) 9)) i) (by rw [gaf_t (decide_eq_true h20)]; simp only [if_true]; rw [pm_o J d (gaf (pS (J (78 + 3 * e) 9)) (J (78 + 3 * e + 2)) i) (ct (pS (J (78 + 3 * e) 9)) i) (by omega) (by omega)]) (fun j hj => by rw [gaf_t (decide_eq_true h20)]; simp only; rw [if_neg (by omega)]), ← ct_t (p := (pS (J (78 + 3 * e) 9))) (decide_eq_true h20)]; exact ih (i + 1) (by omega)) | (have h9 := ih (i + 1) (by omega); rw [gaf_f (decide_eq_false (fun q => q h20)), ct_f (p := (pS (J (78 + 3 * e) 9))) (decide_eq_false (fun q => q h20))] at h9; exact h9)
    · refine v_ald0 dX1_takeHeadsOf_23 ?_
      refine v_ald1 dX1_takeHeadsOf_24 ?_
      refine v_getP dX1_takeHeadsOf_25 fl_X1_15 (by first | rfl | exact lay_door (by omega) | exact lay_dt (by omega) | exact lay_da (by omega) | exact lay_sh (by omega) | exact lay_se (by omega)) rfl (by omega) (by first | rfl | exact Pc_d (by omega) | exact Pc_dt (by omega) | exact Pc_da (by omega) | exact Pc_s (by omega) | exact Pc_se (by omega)) ?_
      refine v_ild3 dX1_takeHeadsOf_28 ?_
      refine v_iald dX1_takeHeadsOf_29 (by first | rfl | exact lay_door (by omega) | exact lay_dt (by omega) | exact lay_da (by omega) | exact lay_sh (by omega) | exact lay_se (by omega)) (by omega) ⟨rfl, by omega, by decide⟩ ?_
      refine v_V1n (c_X1_addHead hd hdc (pm_h J d _ (ct (pS (J (78 + 3 * e) 9)) i)) (by have := ct_le (pS (J (78 + 3 * e) 9)) i; omega)) lk_X1_69 dX1_takeHeadsOf_30 (by decide) (Nat.le_of_ble_eq_true rfl) (by first | rfl | exact lay_door (by omega) | exact lay_dt (by omega) | exact lay_da (by omega) | exact lay_sh (by omega) | exact lay_se (by omega)) (show _ < 78 + 3 * _ by omega) ?_
      refine v_inc3 dX1_takeHeadsOf_33 rfl ?_
      refine v_goto (tgt := 7) dX1_takeHeadsOf_36 (by decide) ?_
      rw [nI_1 i]
      first | (rw [pm_s J d (gaf (pS (J (78 + 3 * e) 9)) (J (78 + 3 * e + 2)) i) (gaf (pS (J (78 + 3 * e) 9)) (J (78 + 3 * e + 2)) (i + 1)) (ct (pS (J (78 + 3 * e) 9)) i) (by rw [gaf_t (decide_eq_true h20)]; simp only [if_true]; rw [pm_o J d (gaf (pS (J (78 + 3 * e) 9)) (J (78 + 3 * e + 2)) i) (ct (pS (J (78 + 3 * e) 9)) i) (by omega) (by omega)]) (fun j hj => by rw [gaf_t (decide_eq_true h20)]; simp only; rw [if_neg (by omega)]), ← ct_t (p := (pS (J (78 + 3 * e) 9))) (decide_eq_true h20)]; exact ih (i + 1) (by omega)) | (have h9 := ih (i + 1) (by omega); rw [gaf_f (decide_eq_false (fun q => q h20)), ct_f (p := (pS (J (78 + 3 * e) 9))) (decide_eq_false (fun q => q h20))] at h9; exact h9)

def thI (I : Nat → Nat → Int32) (d e h : Nat) (w : Int32) : Nat → Nat → Int32 := u2 (u2 (pm (sR I d (nI 4)) d (gaf (pS (I (78 + 3 * e) 9)) (I (78 + 3 * e + 2)) h) (ct (pS (I (78 + 3 * e) 9)) h)) (78 + 3 * d) 12 w) (78 + 3 * e) 11 (I (78 + 3 * e) 11 + nI 1)
theorem sR_o (I : Nat → Nat → Int32) (d : Nat) (v : Int32) {x : Nat} (j : Nat) (h : x ≠ 78 + 3 * d) : sR I d v x j = I x j := by
  simp only [sR]
  rw [u2_a _ _ _ _ h, u2_a _ _ _ _ h, u2_a _ _ _ _ h, u2_a _ _ _ _ h]

set_option maxRecDepth 4000 in
theorem c_X1_takeHeadsOf {G : GG} {dc : Nat} {I : Nat → Nat → Int32} {L : Nat → Nat → Int64} {d : Nat} {e h : Nat} {w : Int32} (hd : d < dc) (hdc : dc ≤ 24) (he : e < dc) (hne : e ≠ d) (hh : I (78 + 3 * e) 8 = nI h) (h12 : h ≤ 12) : Cn G yX1_takeHeadsOf cX1_takeHeadsOf 4 none 1 0 0 [.ref (78 + 3 * d), .ref (78 + 3 * e), .int w] (Mm dc I L) (Is none (Mm dc (thI I d e h w) L)) := by
  refine Cn.of' (by decide) (Nat.le_of_ble_eq_true rfl) rfl ?_
  refine v_ald0 dX1_takeHeadsOf_0 ?_
  refine v_icN (n := 4) dX1_takeHeadsOf_1 (by decide) ?_
  refine v_V1n (c_X1_startReturn hd hdc) lk_X1_65 dX1_takeHeadsOf_2 (by decide) (Nat.le_of_ble_eq_true rfl) (by first | rfl | exact lay_door (by omega) | exact lay_dt (by omega) | exact lay_da (by omega) | exact lay_sh (by omega) | exact lay_se (by omega)) (show _ < 78 + 3 * _ by omega) ?_
  refine v_icN (n := 0) dX1_takeHeadsOf_5 (by decide) ?_
  refine v_ist3 dX1_takeHeadsOf_6 rfl ?_
  have h9 := lp_tho (G := G) (L := L) (w := w) (J := (sR I d (nI 4))) hd hdc he hne (by rw [sR_o _ _ _ _ (by omega)]; exact hh) h12 h 0 (by omega)
  rw [show sR I d (nI 4) (78 + 3 * e + 2) = I (78 + 3 * e + 2) by funext j; exact sR_o _ _ _ _ (by omega), sR_o _ _ _ _ (show 78 + 3 * e ≠ 78 + 3 * d by omega), sR_o _ _ _ _ (show 78 + 3 * e ≠ 78 + 3 * d by omega)] at h9
  rw [show ct (pS (I (78 + 3 * e) 9)) 0 = 0 from rfl, pm_0 (d := d) _ (by simp [sR, u2])] at h9
  exact h9

def telD (I : Nat → Nat → Int32) (d : Nat) (w : Int32) : Int32 := if w = nI 0 then I (78 + 3 * d) 6 else if w = nI 1 then bI (¬ I (78 + 3 * d) 7 = 0) else if w = nI 2 then I (78 + 3 * d) 8 else if w = nI 3 then bc32 (I (78 + 3 * d) 9) else if w = nI 4 then I (78 + 3 * d) 10 else if w = nI 5 then I (78 + 3 * d) 11 else -1

set_option maxRecDepth 4000 in
theorem c_X1_tell {G : GG} {dc : Nat} {I : Nat → Nat → Int32} {L : Nat → Nat → Int64} {d : Nat} {w : Int32} (hd : d < dc) (hdc : dc ≤ 24) : Cn G yX1_tell cX1_tell 2 (some .int) 1 0 0 [.ref (78 + 3 * d), .int w] (Mm dc I L) (Is (some (.int (telD I d w))) (Mm dc I L)) := by
  refine Cn.of' (by decide) (Nat.le_of_ble_eq_true rfl) rfl ?_
  refine v_ild1 dX1_tell_0 ?_
  refine v_tab (hi := 5) (tgt := 81) [40, 45, 58, 63, 71, 76] dX1_tell_1 (by decide) (by decide) (by decide) (fun j t hj ht hx => ?_) (fun hx => ?_)
  · rcases (show j = 0 ∨ j = 1 ∨ j = 2 ∨ j = 3 ∨ j = 4 ∨ j = 5 by omega) with rfl | rfl | rfl | rfl | rfl | rfl <;> cases ht
    · refine v_ald0 dX1_tell_40 ?_
      refine v_getI dX1_tell_41 fl_X1_18 (by first | rfl | exact lay_door (by omega) | exact lay_dt (by omega) | exact lay_da (by omega) | exact lay_sh (by omega) | exact lay_se (by omega)) rfl (by omega) ?_
      exact v_retI dX1_tell_44 trivial (by rw [hx]; exact ⟨rfl, rfl⟩)
    · refine v_ald0 dX1_tell_45 ?_
      refine v_getI dX1_tell_46 fl_X1_55 (by first | rfl | exact lay_door (by omega) | exact lay_dt (by omega) | exact lay_da (by omega) | exact lay_sh (by omega) | exact lay_se (by omega)) rfl (by omega) ?_
      refine v_if_eq (tgt := 56) dX1_tell_49 (by decide) (fun h49 => ?_) (fun h49 => ?_)
      · refine v_icN (n := 0) dX1_tell_56 (by decide) ?_
        exact v_retI dX1_tell_57 trivial (by rw [hx, telD, if_neg (by decide), if_pos rfl]; first | (rw [bI_t h49]; exact ⟨rfl, rfl⟩) | (rw [bI_f (fun q => q h49)]; exact ⟨rfl, rfl⟩))
      · refine v_icN (n := 1) dX1_tell_52 (by decide) ?_
        refine v_goto (tgt := 57) dX1_tell_53 (by decide) ?_
        exact v_retI dX1_tell_57 trivial (by rw [hx, telD, if_neg (by decide), if_pos rfl]; first | (rw [bI_t h49]; exact ⟨rfl, rfl⟩) | (rw [bI_f (fun q => q h49)]; exact ⟨rfl, rfl⟩))
    · refine v_ald0 dX1_tell_58 ?_
      refine v_getI dX1_tell_59 fl_X1_59 (by first | rfl | exact lay_door (by omega) | exact lay_dt (by omega) | exact lay_da (by omega) | exact lay_sh (by omega) | exact lay_se (by omega)) rfl (by omega) ?_
      exact v_retI dX1_tell_62 trivial (by rw [hx]; exact ⟨rfl, rfl⟩)
    · refine v_ald0 dX1_tell_63 ?_
      refine v_getI dX1_tell_64 fl_X1_62 (by first | rfl | exact lay_door (by omega) | exact lay_dt (by omega) | exact lay_da (by omega) | exact lay_sh (by omega) | exact lay_se (by omega)) rfl (by omega) ?_
      refine v_S1 c_J6_bitCount_0f7a4 lk_X1_82 dX1_tell_67 (by decide) (Nat.le_of_ble_eq_true rfl) ?_
      exact v_retI dX1_tell_70 trivial (by rw [hx]; exact ⟨rfl, rfl⟩)
    · refine v_ald0 dX1_tell_71 ?_
      refine v_getI dX1_tell_72 fl_X1_72 (by first | rfl | exact lay_door (by omega) | exact lay_dt (by omega) | exact lay_da (by omega) | exact lay_sh (by omega) | exact lay_se (by omega)) rfl (by omega) ?_
      exact v_retI dX1_tell_75 trivial (by rw [hx]; exact ⟨rfl, rfl⟩)
    · refine v_ald0 dX1_tell_76 ?_
      refine v_getI dX1_tell_77 fl_X1_75 (by first | rfl | exact lay_door (by omega) | exact lay_dt (by omega) | exact lay_da (by omega) | exact lay_sh (by omega) | exact lay_se (by omega)) rfl (by omega) ?_
      exact v_retI dX1_tell_80 trivial (by rw [hx]; exact ⟨rfl, rfl⟩)
  · refine v_icm1 dX1_tell_81 ?_
    exact v_retI dX1_tell_82 trivial (by rw [telD, if_neg (hx 0 (by decide)), if_neg (hx 1 (by decide)), if_neg (hx 2 (by decide)), if_neg (hx 3 (by decide)), if_neg (hx 4 (by decide)), if_neg (hx 5 (by decide))]; exact ⟨rfl, rfl⟩)

/-- a knock is noted: its place, whether it was answered -/
def ntI (I : Nat → Nat → Int32) (q : Nat) (w : Int32) : Nat → Nat → Int32 :=
  let J := u2 (u2 I 6 q (I 6 q + nI 1)) 5 2 (I 5 2 + nI 1)
  if w = 0 then J else u2 (u2 J 7 q (I 7 q + nI 1)) 5 3 (I 5 3 + nI 1)

set_option maxRecDepth 4000 in
theorem c_X0_note {G : GG} {dc : Nat} {I : Nat → Nat → Int32} {L : Nat → Nat → Int64} {k u : Nat} {w : Int32} (hk : k < 4) (hu : u < 10) : Cn G yX0_note cX0_note 5 none 0 0 0 [.ref 5, .int (nI k), .int (nI u), .int w] (Mm dc I L) (Is none (Mm dc (ntI I (k * 10 + u) w) L)) := by
  refine Cn.of' (by decide) (Nat.le_of_ble_eq_true rfl) rfl ?_
  refine v_ild1 dX0_note_0 ?_
  refine v_bipush (v := nI 10) dX0_note_1 (by decide) ?_
  refine v_imul dX0_note_3 ?_
  refine v_ild2 dX0_note_4 ?_
  refine v_iadd dX0_note_5 ?_
  refine v_ist4 dX0_note_6 rfl ?_
  rw [pk_mul, nI_add]
  refine v_ild4 dX0_note_8 ?_
  refine v_if_lt (tgt := 23) dX0_note_10 (by decide) (fun h10 => absurd h10 (nI_pos (by omega))) (fun h10 => ?_)
  refine v_ild4 dX0_note_13 ?_
  refine v_ald0 dX0_note_15 ?_
  refine v_getP (q := 6) dX0_note_16 fl_X0_9 (by first | rfl | exact lay_door (by omega) | exact lay_dt (by omega) | exact lay_da (by omega) | exact lay_sh (by omega) | exact lay_se (by omega)) rfl (by omega) rfl ?_
  refine v_alen (Or.inl rfl) dX0_note_19 (by first | rfl | exact lay_door (by omega) | exact lay_dt (by omega) | exact lay_da (by omega) | exact lay_sh (by omega) | exact lay_se (by omega)) (by omega) rfl ?_
  refine v_icmp_lt (tgt := 24) dX0_note_20 (by decide) (fun h20 => ?_) (fun h20 => absurd (nI_lt (by omega) (by decide)) h20)
  refine v_ald0 dX0_note_24 ?_
  refine v_getP (q := 6) dX0_note_25 fl_X0_9 (by first | rfl | exact lay_door (by omega) | exact lay_dt (by omega) | exact lay_da (by omega) | exact lay_sh (by omega) | exact lay_se (by omega)) rfl (by omega) rfl ?_
  refine v_ild4 dX0_note_28 ?_
  refine v_dup2 dX0_note_30 ?_
  refine v_iald dX0_note_31 (by first | rfl | exact lay_door (by omega) | exact lay_dt (by omega) | exact lay_da (by omega) | exact lay_sh (by omega) | exact lay_se (by omega)) (by omega) ⟨rfl, by omega, by decide⟩ ?_
  refine v_icN (n := 1) dX0_note_32 (by decide) ?_
  refine v_iadd dX0_note_33 ?_
  refine v_iast dX0_note_34 (by first | rfl | exact lay_door (by omega) | exact lay_dt (by omega) | exact lay_da (by omega) | exact lay_sh (by omega) | exact lay_se (by omega)) (by omega) ⟨rfl, by omega, by decide⟩ ?_
  refine v_ald0 dX0_note_35 ?_
  refine v_dupR dX0_note_36 ?_
  refine v_getI dX0_note_37 fl_X0_18 (by first | rfl | exact lay_door (by omega) | exact lay_dt (by omega) | exact lay_da (by omega) | exact lay_sh (by omega) | exact lay_se (by omega)) rfl (by omega) ?_
  refine v_icN (n := 1) dX0_note_40 (by decide) ?_
  refine v_iadd dX0_note_41 ?_
  refine v_putI dX0_note_42 fl_X0_18 ft_0_2 (by first | rfl | exact lay_door (by omega) | exact lay_dt (by omega) | exact lay_da (by omega) | exact lay_sh (by omega) | exact lay_se (by omega)) rfl (by omega) ?_
  refine v_ild3 dX0_note_45 ?_
  refine v_if_eq (tgt := 70) dX0_note_46 (by decide) (fun h46 => ?_) (fun h46 => ?_)
  · exact v_retV dX0_note_70 trivial (by rw [ntI]; first | (simp only [if_pos h46]; exact ⟨rfl, rfl⟩) | (simp only [if_neg h46]; exact ⟨rfl, rfl⟩))
  · refine v_ald0 dX0_note_49 ?_
    refine v_getP (q := 7) dX0_note_50 fl_X0_15 (by first | rfl | exact lay_door (by omega) | exact lay_dt (by omega) | exact lay_da (by omega) | exact lay_sh (by omega) | exact lay_se (by omega)) rfl (by omega) rfl ?_
    refine v_ild4 dX0_note_53 ?_
    refine v_dup2 dX0_note_55 ?_
    refine v_iald dX0_note_56 (by first | rfl | exact lay_door (by omega) | exact lay_dt (by omega) | exact lay_da (by omega) | exact lay_sh (by omega) | exact lay_se (by omega)) (by omega) ⟨rfl, by omega, by decide⟩ ?_
    refine v_icN (n := 1) dX0_note_57 (by decide) ?_
    refine v_iadd dX0_note_58 ?_
    refine v_iast dX0_note_59 (by first | rfl | exact lay_door (by omega) | exact lay_dt (by omega) | exact lay_da (by omega) | exact lay_sh (by omega) | exact lay_se (by omega)) (by omega) ⟨rfl, by omega, by decide⟩ ?_
    refine v_ald0 dX0_note_60 ?_
    refine v_dupR dX0_note_61 ?_
    refine v_getI dX0_note_62 fl_X0_22 (by first | rfl | exact lay_door (by omega) | exact lay_dt (by omega) | exact lay_da (by omega) | exact lay_sh (by omega) | exact lay_se (by omega)) rfl (by omega) ?_
    refine v_icN (n := 1) dX0_note_65 (by decide) ?_
    refine v_iadd dX0_note_66 ?_
    refine v_putI dX0_note_67 fl_X0_22 ft_0_3 (by first | rfl | exact lay_door (by omega) | exact lay_dt (by omega) | exact lay_da (by omega) | exact lay_sh (by omega) | exact lay_se (by omega)) rfl (by omega) ?_
    exact v_retV dX0_note_70 trivial (by rw [ntI]; first | (simp only [if_pos h46]; exact ⟨rfl, rfl⟩) | (simp only [if_neg h46]; exact ⟨rfl, rfl⟩))

abbrev grt (I : Nat → Nat → Int32) (a b : Nat) : Prop := ¬ (I 7 a + nI 1) * (I 6 b + nI 2) ≤ (I 7 b + nI 1) * (I 6 a + nI 2)

set_option maxRecDepth 4000 in
theorem c_X0_isGreater {G : GG} {dc : Nat} {I : Nat → Nat → Int32} {L : Nat → Nat → Int64} {a b : Nat} (ha : a < 40) (hb : b < 40) : Cn G yX0_isGreater cX0_isGreater 5 (some .boolean) 0 0 0 [.ref 5, .int (nI a), .int (nI b)] (Mm dc I L) (Is (some (.int (bI (grt I a b)))) (Mm dc I L)) := by
  refine Cn.of' (by decide) (Nat.le_of_ble_eq_true rfl) rfl ?_
  refine v_ald0 dX0_isGreater_0 ?_
  refine v_getP (q := 7) dX0_isGreater_1 fl_X0_15 (by first | rfl | exact lay_door (by omega) | exact lay_dt (by omega) | exact lay_da (by omega) | exact lay_sh (by omega) | exact lay_se (by omega)) rfl (by omega) rfl ?_
  refine v_ild1 dX0_isGreater_4 ?_
  refine v_iald dX0_isGreater_5 (by first | rfl | exact lay_door (by omega) | exact lay_dt (by omega) | exact lay_da (by omega) | exact lay_sh (by omega) | exact lay_se (by omega)) (by omega) ⟨rfl, by omega, by decide⟩ ?_
  refine v_icN (n := 1) dX0_isGreater_6 (by decide) ?_
  refine v_iadd dX0_isGreater_7 ?_
  refine v_ald0 dX0_isGreater_8 ?_
  refine v_getP (q := 6) dX0_isGreater_9 fl_X0_9 (by first | rfl | exact lay_door (by omega) | exact lay_dt (by omega) | exact lay_da (by omega) | exact lay_sh (by omega) | exact lay_se (by omega)) rfl (by omega) rfl ?_
  refine v_ild2 dX0_isGreater_12 ?_
  refine v_iald dX0_isGreater_13 (by first | rfl | exact lay_door (by omega) | exact lay_dt (by omega) | exact lay_da (by omega) | exact lay_sh (by omega) | exact lay_se (by omega)) (by omega) ⟨rfl, by omega, by decide⟩ ?_
  refine v_icN (n := 2) dX0_isGreater_14 (by decide) ?_
  refine v_iadd dX0_isGreater_15 ?_
  refine v_imul dX0_isGreater_16 ?_
  refine v_ist3 dX0_isGreater_17 rfl ?_
  refine v_ald0 dX0_isGreater_18 ?_
  refine v_getP (q := 7) dX0_isGreater_19 fl_X0_15 (by first | rfl | exact lay_door (by omega) | exact lay_dt (by omega) | exact lay_da (by omega) | exact lay_sh (by omega) | exact lay_se (by omega)) rfl (by omega) rfl ?_
  refine v_ild2 dX0_isGreater_22 ?_
  refine v_iald dX0_isGreater_23 (by first | rfl | exact lay_door (by omega) | exact lay_dt (by omega) | exact lay_da (by omega) | exact lay_sh (by omega) | exact lay_se (by omega)) (by omega) ⟨rfl, by omega, by decide⟩ ?_
  refine v_icN (n := 1) dX0_isGreater_24 (by decide) ?_
  refine v_iadd dX0_isGreater_25 ?_
  refine v_ald0 dX0_isGreater_26 ?_
  refine v_getP (q := 6) dX0_isGreater_27 fl_X0_9 (by first | rfl | exact lay_door (by omega) | exact lay_dt (by omega) | exact lay_da (by omega) | exact lay_sh (by omega) | exact lay_se (by omega)) rfl (by omega) rfl ?_
  refine v_ild1 dX0_isGreater_30 ?_
  refine v_iald dX0_isGreater_31 (by first | rfl | exact lay_door (by omega) | exact lay_dt (by omega) | exact lay_da (by omega) | exact lay_sh (by omega) | exact lay_se (by omega)) (by omega) ⟨rfl, by omega, by decide⟩ ?_
  refine v_icN (n := 2) dX0_isGreater_32 (by decide) ?_
  refine v_iadd dX0_isGreater_33 ?_
  refine v_imul dX0_isGreater_34 ?_
  refine v_ist4 dX0_isGreater_35 rfl ?_
  refine v_ild3 dX0_isGreater_37 ?_
  refine v_ild4 dX0_isGreater_38 ?_
  refine v_icmp_le (tgt := 47) dX0_isGreater_40 (by decide) (fun h40 => ?_) (fun h40 => ?_)
  · refine v_icN (n := 0) dX0_isGreater_47 (by decide) ?_
    exact v_retI dX0_isGreater_48 (by first | exact Or.inl rfl | exact Or.inr rfl | exact bI_01) (by refine ⟨?_, rfl⟩; first | rw [bI_t h40] | rw [bI_f (fun q => q h40)])
  · refine v_icN (n := 1) dX0_isGreater_43 (by decide) ?_
    refine v_goto (tgt := 48) dX0_isGreater_44 (by decide) ?_
    exact v_retI dX0_isGreater_48 (by first | exact Or.inl rfl | exact Or.inr rfl | exact bI_01) (by refine ⟨?_, rfl⟩; first | rw [bI_t h40] | rw [bI_f (fun q => q h40)])

/-- the best hour of those below i: hours from 1 on -/
def bsh (I : Nat → Nat → Int32) (k : Nat) : Nat → Nat
  | 0 => 0
  | i + 1 => if grt I (k * 10 + (i + 1)) (k * 10 + bsh I k i) then i + 1 else bsh I k i
theorem bsh_le (I : Nat → Nat → Int32) (k : Nat) : ∀ i, bsh I k i ≤ i
  | 0 => Nat.le_refl 0
  | i + 1 => by
    have := bsh_le I k i
    simp only [bsh]
    split <;> omega

set_option maxRecDepth 4000 in
theorem lp_gr {G : GG} {dc : Nat} {I : Nat → Nat → Int32} {L : Nat → Nat → Int64} {q : Nat} (hq : q < 4) (k : Nat) : ∀ i, i + k = 9 → V G yX0_greatest cX0_greatest 4 (some .int) 1 0 0 4 [.ref 5, .int (nI q), .int (nI (bsh I q i)), .int (nI (i + 1))] [] (Mm dc I L) (Is (some (.int (nI (bsh I q 9)))) (Mm dc I L)) := by
  induction k with
  | zero =>
    intro i hi
    refine v_ild3 dX0_greatest_4 ?_
    refine v_bipush (v := nI 10) dX0_greatest_5 (by decide) ?_
    refine v_icmp_ge (tgt := 37) dX0_greatest_7 (by decide) (fun h7 => ?_) (fun h7 => absurd (nI_le (by omega) (by omega)) h7)
    refine v_ild2 dX0_greatest_37 ?_
    exact v_retI dX0_greatest_38 trivial (by rw [show i = 9 by omega]; exact ⟨rfl, rfl⟩)
  | succ k ih =>
    intro i hi
    refine v_ild3 dX0_greatest_4 ?_
    refine v_bipush (v := nI 10) dX0_greatest_5 (by decide) ?_
    refine v_icmp_ge (tgt := 37) dX0_greatest_7 (by decide) (fun h7 => absurd h7 (nI_ge (by omega) (by omega))) (fun h7 => ?_)
    refine v_ald0 dX0_greatest_10 ?_
    refine v_ild1 dX0_greatest_11 ?_
    refine v_bipush (v := nI 10) dX0_greatest_12 (by decide) ?_
    refine v_imul dX0_greatest_14 ?_
    refine v_ild3 dX0_greatest_15 ?_
    refine v_iadd dX0_greatest_16 ?_
    refine v_ild1 dX0_greatest_17 ?_
    refine v_bipush (v := nI 10) dX0_greatest_18 (by decide) ?_
    refine v_imul dX0_greatest_20 ?_
    refine v_ild2 dX0_greatest_21 ?_
    refine v_iadd dX0_greatest_22 ?_
    rw [pk_mul, nI_add, nI_add]
    refine v_V2 (c_X0_isGreater (by have := bsh_le I q i; omega) (by have := bsh_le I q i; omega)) lk_X0_25 dX0_greatest_23 (by decide) (Nat.le_of_ble_eq_true rfl) (by first | rfl | exact lay_door (by omega) | exact lay_dt (by omega) | exact lay_da (by omega) | exact lay_sh (by omega) | exact lay_se (by omega)) (show _ < 78 + 3 * _ by omega) ?_
    refine v_ifeq_b (tgt := 31) dX0_greatest_26 (by decide) (fun h26 => ?_) (fun h26 => ?_)
    · refine v_inc3 dX0_greatest_31 rfl ?_
      refine v_goto (tgt := 4) dX0_greatest_34 (by decide) ?_
      rw [nI_1 (i + 1)]
      first | (have h9 := ih (i + 1) (by omega); rw [show bsh I q (i + 1) = i + 1 by simp only [bsh]; exact if_pos h26] at h9; exact h9) | (have h9 := ih (i + 1) (by omega); rw [show bsh I q (i + 1) = bsh I q i by simp only [bsh]; exact if_neg h26] at h9; exact h9)
    · refine v_ild3 dX0_greatest_29 ?_
      refine v_ist2 dX0_greatest_30 rfl ?_
      refine v_inc3 dX0_greatest_31 rfl ?_
      refine v_goto (tgt := 4) dX0_greatest_34 (by decide) ?_
      rw [nI_1 (i + 1)]
      first | (have h9 := ih (i + 1) (by omega); rw [show bsh I q (i + 1) = i + 1 by simp only [bsh]; exact if_pos h26] at h9; exact h9) | (have h9 := ih (i + 1) (by omega); rw [show bsh I q (i + 1) = bsh I q i by simp only [bsh]; exact if_neg h26] at h9; exact h9)

set_option maxRecDepth 4000 in
theorem c_X0_greatest {G : GG} {dc : Nat} {I : Nat → Nat → Int32} {L : Nat → Nat → Int64} {q : Nat} (hq : q < 4) : Cn G yX0_greatest cX0_greatest 4 (some .int) 1 0 0 [.ref 5, .int (nI q)] (Mm dc I L) (Is (some (.int (nI (bsh I q 9)))) (Mm dc I L)) := by
  refine Cn.of' (by decide) (Nat.le_of_ble_eq_true rfl) rfl ?_
  refine v_icN (n := 0) dX0_greatest_0 (by decide) ?_
  refine v_ist2 dX0_greatest_1 rfl ?_
  refine v_icN (n := 1) dX0_greatest_2 (by decide) ?_
  refine v_ist3 dX0_greatest_3 rfl ?_
  exact lp_gr hq 9 0 (by omega)
