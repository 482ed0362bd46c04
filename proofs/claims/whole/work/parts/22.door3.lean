/-- a door's return with m heads of ages g -/
def pm (I : Nat → Nat → Int32) (d : Nat) (g : Nat → Int32) (m : Nat) : Nat → Nat → Int32 := fun x j => if x = 78 + 3 * d ∧ j = 8 then nI m else if x = 78 + 3 * d + 2 ∧ j < m then g j else I x j
theorem pm_h (I : Nat → Nat → Int32) (d : Nat) (g : Nat → Int32) (m : Nat) : pm I d g m (78 + 3 * d) 8 = nI m := if_pos ⟨rfl, rfl⟩
theorem pm_f (I : Nat → Nat → Int32) (d : Nat) (g : Nat → Int32) (m : Nat) {f : Nat} (h : f ≠ 8) : pm I d g m (78 + 3 * d) f = I (78 + 3 * d) f := by
  simp only [pm]
  rw [if_neg (fun q => h q.2), if_neg (fun q => by omega)]
theorem pm_a (I : Nat → Nat → Int32) (d : Nat) (g : Nat → Int32) (m : Nat) {j : Nat} (h : j < m) : pm I d g m (78 + 3 * d + 2) j = g j := by
  unfold pm
  rw [if_neg (fun q => by omega), if_pos ⟨rfl, h⟩]
theorem pm_o (I : Nat → Nat → Int32) (d : Nat) (g : Nat → Int32) (m : Nat) {x j : Nat} (h1 : x ≠ 78 + 3 * d) (h2 : x ≠ 78 + 3 * d + 2) : pm I d g m x j = I x j := by
  simp only [pm]
  rw [if_neg (fun q => h1 q.1), if_neg (fun q => h2 q.1)]
theorem pm_0 {I : Nat → Nat → Int32} {d : Nat} (g : Nat → Int32) (h : I (78 + 3 * d) 8 = nI 0) : pm I d g 0 = I := by
  funext x j
  simp only [pm]
  by_cases hc : x = 78 + 3 * d ∧ j = 8
  · rw [if_pos hc, hc.1, hc.2, h]
  · rw [if_neg hc, if_neg (fun q => by omega)]
theorem pm_s (I : Nat → Nat → Int32) (d : Nat) (g g2 : Nat → Int32) (m : Nat) {v : Int32} (hv : v = g2 m) (hg : ∀ j, j < m → g j = g2 j) : u2 (u2 (pm I d g m) (78 + 3 * d + 2) m v) (78 + 3 * d) 8 (nI (m + 1)) = pm I d g2 (m + 1) := by
  funext x j
  simp only [pm, u2]
  by_cases h1 : x = 78 + 3 * d ∧ j = 8
  · rw [if_pos h1, if_pos h1]
  · rw [if_neg h1, if_neg h1, if_neg h1]
    by_cases h2 : x = 78 + 3 * d + 2 ∧ j = m
    · rw [if_pos h2, if_pos ⟨h2.1, by omega⟩, hv, h2.2]
    · rw [if_neg h2]
      by_cases h3 : x = 78 + 3 * d + 2 ∧ j < m
      · rw [if_pos h3, if_pos ⟨h3.1, by omega⟩]
        exact hg j h3.2
      · rw [if_neg h3, if_neg (fun q => by omega)]
/-- the first m places of row a hold g -/
def rf2 {α : Type} (f : Nat → Nat → α) (a m : Nat) (g : Nat → α) : Nat → Nat → α := fun x j => if x = a ∧ j < m then g j else f x j
theorem rf2_0 {α : Type} (f : Nat → Nat → α) (a : Nat) (g : Nat → α) : rf2 f a 0 g = f := by
  funext x j
  exact if_neg (fun q => by omega)
theorem rf2_s {α : Type} (f : Nat → Nat → α) (a m : Nat) (g : Nat → α) {v : α} (hv : v = g m) : u2 (rf2 f a m g) a m v = rf2 f a (m + 1) g := by
  funext x j
  simp only [u2, rf2]
  by_cases h2 : x = a ∧ j = m
  · rw [if_pos h2, if_pos ⟨h2.1, by omega⟩, hv, h2.2]
  · rw [if_neg h2]
    by_cases h3 : x = a ∧ j < m
    · rw [if_pos h3, if_pos ⟨h3.1, by omega⟩]
    · rw [if_neg h3, if_neg (fun q => by omega)]
theorem rf2_o {α : Type} (f : Nat → Nat → α) {a x : Nat} (m j : Nat) (g : Nat → α) (h : x ≠ a) : rf2 f a m g x j = f x j := if_neg (fun q => h q.1)
theorem rf2_i {α : Type} (f : Nat → Nat → α) {a m j : Nat} (g : Nat → α) (h : j < m) : rf2 f a m g a j = g j := if_pos ⟨rfl, h⟩
/-- the first place from i on, of k, that is such -/
def fzf (p : Nat → Bool) : Nat → Nat → Nat
  | i, 0 => i
  | i, k + 1 => if p i then i else fzf p (i + 1) k
theorem fzf_le (p : Nat → Bool) : ∀ k i, i ≤ fzf p i k ∧ fzf p i k ≤ i + k
  | 0, i => ⟨Nat.le_refl _, Nat.le_refl _⟩
  | k + 1, i => by
    have := fzf_le p k (i + 1)
    simp only [fzf]
    split <;> omega
theorem fzf_cong {p q : Nat → Bool} : ∀ k i, (∀ j, i ≤ j → j < i + k → p j = q j) → fzf p i k = fzf q i k
  | 0, i, _ => rfl
  | k + 1, i, h => by
    simp only [fzf, h i (by omega) (by omega), fzf_cong k (i + 1) (fun j h1 h2 => h j (by omega) (by omega))]

set_option maxRecDepth 4000 in
theorem lp_tpx {G : GG} {dc : Nat} {J : Nat → Nat → Int32} {L : Nat → Nat → Int64} {d t : Nat} (hd : d < dc) (hdc : dc ≤ 24) (ht : t ≤ 12) (k : Nat) : ∀ i, i + k = t → V G yX1_takeProxy cX1_takeProxy 3 none 1 0 0 7 [.ref (78 + 3 * d), .int (nI t), .int (nI i)] [] (Mm dc (pm J d (fun _ => -2) i) L) (Is none (Mm dc (pm J d (fun _ => -2) t) L)) := by
  induction k with
  | zero =>
    intro i hi
    refine v_ild2 dX1_takeProxy_7 ?_
    refine v_ild1 dX1_takeProxy_8 ?_
    refine v_icmp_ge (tgt := 24) dX1_takeProxy_9 (by decide) (fun h9 => ?_) (fun h9 => absurd (nI_le (by omega) (by omega)) h9)
    exact v_retV dX1_takeProxy_24 trivial (by rw [show i = t by omega]; exact ⟨rfl, rfl⟩)
  | succ k ih =>
    intro i hi
    refine v_ild2 dX1_takeProxy_7 ?_
    refine v_ild1 dX1_takeProxy_8 ?_
    refine v_icmp_ge (tgt := 24) dX1_takeProxy_9 (by decide) (fun h9 => absurd h9 (nI_ge (by omega) (by omega))) (fun h9 => ?_)
    refine v_ald0 dX1_takeProxy_12 ?_
    refine v_bipush (v := -2) dX1_takeProxy_13 (by decide) ?_
    refine v_V1n (c_X1_addHead hd hdc (pm_h J d _ i) (by omega)) lk_X1_69 dX1_takeProxy_15 (by decide) (Nat.le_of_ble_eq_true rfl) (by first | rfl | exact lay_door (by omega) | exact lay_dt (by omega) | exact lay_da (by omega) | exact lay_sh (by omega) | exact lay_se (by omega)) (show _ < 78 + 3 * _ by omega) ?_
    refine v_inc2 dX1_takeProxy_18 rfl ?_
    refine v_goto (tgt := 7) dX1_takeProxy_21 (by decide) ?_
    rw [nI_1 i, pm_s J d (fun _ => -2) (fun _ => -2) i rfl (fun _ _ => rfl)]
    exact ih (i + 1) (by omega)

set_option maxRecDepth 4000 in
theorem c_X1_takeProxy {G : GG} {dc : Nat} {I : Nat → Nat → Int32} {L : Nat → Nat → Int64} {d : Nat} {t : Nat} (hd : d < dc) (hdc : dc ≤ 24) (ht : t ≤ 12) : Cn G yX1_takeProxy cX1_takeProxy 3 none 1 0 0 [.ref (78 + 3 * d), .int (nI t)] (Mm dc I L) (Is none (Mm dc (pm (sR I d (nI 3)) d (fun _ => -2) t) L)) := by
  refine Cn.of' (by decide) (Nat.le_of_ble_eq_true rfl) rfl ?_
  refine v_ald0 dX1_takeProxy_0 ?_
  refine v_icN (n := 3) dX1_takeProxy_1 (by decide) ?_
  refine v_V1n (c_X1_startReturn hd hdc) lk_X1_65 dX1_takeProxy_2 (by decide) (Nat.le_of_ble_eq_true rfl) (by first | rfl | exact lay_door (by omega) | exact lay_dt (by omega) | exact lay_da (by omega) | exact lay_sh (by omega) | exact lay_se (by omega)) (show _ < 78 + 3 * _ by omega) ?_
  refine v_icN (n := 0) dX1_takeProxy_5 (by decide) ?_
  refine v_ist2 dX1_takeProxy_6 rfl ?_
  have h9 := lp_tpx (G := G) (L := L) (J := sR I d (nI 3)) hd hdc ht t 0 (by omega)
  rw [pm_0 (d := d) _ (by simp [sR, u2])] at h9
  exact h9

set_option maxRecDepth 4000 in
theorem lp_tk {G : GG} {dc : Nat} {J : Nat → Nat → Int32} {L : Nat → Nat → Int64} {d t : Nat} {u : Int32} (hd : d < dc) (hdc : dc ≤ 24) (h5 : J (78 + 3 * d) 5 = nI t) (ht : t ≤ 12) (k : Nat) : ∀ i, i + k = t → V G yX1_takeKnock cX1_takeKnock 3 (some .boolean) 1 0 0 30 [.ref (78 + 3 * d), .int u, .int (nI i)] [] (Mm dc (pm J d (J (78 + 3 * d + 1)) i) L) (Is (some (.int (nI 1))) (Mm dc (pm J d (J (78 + 3 * d + 1)) t) L)) := by
  induction k with
  | zero =>
    intro i hi
    refine v_ild2 dX1_takeKnock_30 ?_
    refine v_ald0 dX1_takeKnock_31 ?_
    refine v_getI dX1_takeKnock_32 fl_X1_48 (by first | rfl | exact lay_door (by omega) | exact lay_dt (by omega) | exact lay_da (by omega) | exact lay_sh (by omega) | exact lay_se (by omega)) rfl (by omega) ?_
    refine v_icmp_ge (tgt := 54) dX1_takeKnock_35 (by decide) (fun h35 => ?_) (fun h35 => absurd (by rw [pm_f J d _ i (by decide), h5]; exact nI_le (by omega) (by omega)) h35)
    refine v_icN (n := 1) dX1_takeKnock_54 (by decide) ?_
    exact v_retI dX1_takeKnock_55 (by first | exact Or.inl rfl | exact Or.inr rfl | exact bI_01) (by rw [show i = t by omega]; exact ⟨rfl, rfl⟩)
  | succ k ih =>
    intro i hi
    refine v_ild2 dX1_takeKnock_30 ?_
    refine v_ald0 dX1_takeKnock_31 ?_
    refine v_getI dX1_takeKnock_32 fl_X1_48 (by first | rfl | exact lay_door (by omega) | exact lay_dt (by omega) | exact lay_da (by omega) | exact lay_sh (by omega) | exact lay_se (by omega)) rfl (by omega) ?_
    refine v_icmp_ge (tgt := 54) dX1_takeKnock_35 (by decide) (fun h35 => absurd h35 (by rw [pm_f J d _ i (by decide), h5]; exact nI_ge (by omega) (by omega))) (fun h35 => ?_)
    refine v_ald0 dX1_takeKnock_38 ?_
    refine v_ald0 dX1_takeKnock_39 ?_
    refine v_getP dX1_takeKnock_40 fl_X1_9 (by first | rfl | exact lay_door (by omega) | exact lay_dt (by omega) | exact lay_da (by omega) | exact lay_sh (by omega) | exact lay_se (by omega)) rfl (by omega) (by first | rfl | exact Pc_d (by omega) | exact Pc_dt (by omega) | exact Pc_da (by omega) | exact Pc_s (by omega) | exact Pc_se (by omega)) ?_
    refine v_ild2 dX1_takeKnock_43 ?_
    refine v_iald dX1_takeKnock_44 (by first | rfl | exact lay_door (by omega) | exact lay_dt (by omega) | exact lay_da (by omega) | exact lay_sh (by omega) | exact lay_se (by omega)) (by omega) ⟨rfl, by omega, by decide⟩ ?_
    refine v_V1n (c_X1_addHead hd hdc (pm_h J d _ i) (by omega)) lk_X1_69 dX1_takeKnock_45 (by decide) (Nat.le_of_ble_eq_true rfl) (by first | rfl | exact lay_door (by omega) | exact lay_dt (by omega) | exact lay_da (by omega) | exact lay_sh (by omega) | exact lay_se (by omega)) (show _ < 78 + 3 * _ by omega) ?_
    refine v_inc2 dX1_takeKnock_48 rfl ?_
    refine v_goto (tgt := 30) dX1_takeKnock_51 (by decide) ?_
    rw [nI_1 i, pm_s J d (J (78 + 3 * d + 1)) (J (78 + 3 * d + 1)) i (pm_o J d _ i (by omega) (by omega)) (fun _ _ => rfl)]
    exact ih (i + 1) (by omega)

def tkI (I : Nat → Nat → Int32) (d t : Nat) (u : Int32) : Nat → Nat → Int32 := if ((I (78 + 3 * d) 2 >>> (u &&& 31)) &&& nI 1) = 0 then (u2 I (78 + 3 * d) 10 (I (78 + 3 * d) 10 + nI 1)) else pm (sR (u2 I (78 + 3 * d) 10 (I (78 + 3 * d) 10 + nI 1)) d (nI 2)) d (I (78 + 3 * d + 1)) t

set_option maxRecDepth 4000 in
theorem c_X1_takeKnock {G : GG} {dc : Nat} {I : Nat → Nat → Int32} {L : Nat → Nat → Int64} {d : Nat} {t : Nat} {u : Int32} (hd : d < dc) (hdc : dc ≤ 24) (h5 : I (78 + 3 * d) 5 = nI t) (ht : t ≤ 12) : Cn G yX1_takeKnock cX1_takeKnock 3 (some .boolean) 1 0 0 [.ref (78 + 3 * d), .int u] (Mm dc I L) (Is (some (.int (bI (¬ ((I (78 + 3 * d) 2 >>> (u &&& 31)) &&& nI 1) = 0)))) (Mm dc (tkI I d t u) L)) := by
  refine Cn.of' (by decide) (Nat.le_of_ble_eq_true rfl) rfl ?_
  refine v_ald0 dX1_takeKnock_0 ?_
  refine v_dupR dX1_takeKnock_1 ?_
  refine v_getI dX1_takeKnock_2 fl_X1_72 (by first | rfl | exact lay_door (by omega) | exact lay_dt (by omega) | exact lay_da (by omega) | exact lay_sh (by omega) | exact lay_se (by omega)) rfl (by omega) ?_
  refine v_icN (n := 1) dX1_takeKnock_5 (by decide) ?_
  refine v_iadd dX1_takeKnock_6 ?_
  refine v_putI dX1_takeKnock_7 fl_X1_72 ft_1_10 (by first | rfl | exact lay_door (by omega) | exact lay_dt (by omega) | exact lay_da (by omega) | exact lay_sh (by omega) | exact lay_se (by omega)) rfl (by omega) ?_
  refine v_ald0 dX1_takeKnock_10 ?_
  refine v_getI dX1_takeKnock_11 fl_X1_34 (by first | rfl | exact lay_door (by omega) | exact lay_dt (by omega) | exact lay_da (by omega) | exact lay_sh (by omega) | exact lay_se (by omega)) rfl (by omega) ?_
  refine v_ild1 dX1_takeKnock_14 ?_
  refine v_ishr dX1_takeKnock_15 ?_
  refine v_icN (n := 1) dX1_takeKnock_16 (by decide) ?_
  refine v_iand dX1_takeKnock_17 ?_
  rw [u2_k _ _ _ _ (show (2 : Nat) ≠ 10 by decide)]
  refine v_if_ne (tgt := 23) dX1_takeKnock_18 (by decide) (fun h18 => ?_) (fun h18 => ?_)
  · refine v_ald0 dX1_takeKnock_23 ?_
    refine v_icN (n := 2) dX1_takeKnock_24 (by decide) ?_
    refine v_V1n (c_X1_startReturn hd hdc) lk_X1_65 dX1_takeKnock_25 (by decide) (Nat.le_of_ble_eq_true rfl) (by first | rfl | exact lay_door (by omega) | exact lay_dt (by omega) | exact lay_da (by omega) | exact lay_sh (by omega) | exact lay_se (by omega)) (show _ < 78 + 3 * _ by omega) ?_
    refine v_icN (n := 0) dX1_takeKnock_28 (by decide) ?_
    refine v_ist2 dX1_takeKnock_29 rfl ?_
    have h9 := lp_tk (G := G) (L := L) (u := u) (J := sR (u2 I (78 + 3 * d) 10 (I (78 + 3 * d) 10 + nI 1)) d (nI 2)) hd hdc (by simp [sR, u2, h5]) ht t 0 (by omega)
    rw [pm_0 (d := d) _ (by simp [sR, u2])] at h9
    rw [tkI, if_neg h18, bI_t h18]
    rw [show sR (u2 I (78 + 3 * d) 10 (I (78 + 3 * d) 10 + nI 1)) d (nI 2) (78 + 3 * d + 1) = I (78 + 3 * d + 1) by funext j; simp [sR, u2]] at h9
    exact h9
  · refine v_icN (n := 0) dX1_takeKnock_21 (by decide) ?_
    exact v_retI dX1_takeKnock_22 (by first | exact Or.inl rfl | exact Or.inr rfl | exact bI_01) (by rw [tkI, if_pos h18, bI_f (fun q => q h18)]; exact ⟨rfl, rfl⟩)

def pT (g : Nat → Int32) (j : Nat) : Bool := decide (g j = -2)
def tpI (J : Nat → Nat → Int32) (d m t : Nat) : Nat → Nat → Int32 := u2 (pm J d (J (78 + 3 * d + 1)) m) (78 + 3 * d) 7 (bI (m < t))
theorem u2_id {α : Type} (f : Nat → Nat → α) (a k : Nat) {v : α} (h : f a k = v) : u2 f a k v = f := by
  funext x j
  simp only [u2]
  split
  · rename_i q; rw [q.1, q.2, h]
  · rfl

set_option maxRecDepth 4000 in
theorem lp_tp1 {G : GG} {dc : Nat} {J : Nat → Nat → Int32} {L : Nat → Nat → Int64} {d i t : Nat} (hd : d < dc) (hdc : dc ≤ 24) (h5 : J (78 + 3 * d) 5 = nI t) (ht : t ≤ 12) (hi : i < t) : V G yX1_takePaper cX1_takePaper 2 (some .int) 1 0 0 7 [.ref (78 + 3 * d), .int (nI (i + 1))] [] (Mm dc (u2 (pm J d (J (78 + 3 * d + 1)) i) (78 + 3 * d) 7 (nI 1)) L) (Is (some (.int (nI i))) (Mm dc (tpI J d i t) L)) := by
  refine v_ild1 dX1_takePaper_7 ?_
  refine v_ald0 dX1_takePaper_8 ?_
  refine v_getI dX1_takePaper_9 fl_X1_48 (by first | rfl | exact lay_door (by omega) | exact lay_dt (by omega) | exact lay_da (by omega) | exact lay_sh (by omega) | exact lay_se (by omega)) rfl (by omega) ?_
  refine v_icmp_ge (tgt := 57) dX1_takePaper_12 (by decide) (fun h12 => ?_) (fun h12 => ?_)
  · refine v_ald0 dX1_takePaper_57 ?_
    refine v_getI dX1_takePaper_58 fl_X1_59 (by first | rfl | exact lay_door (by omega) | exact lay_dt (by omega) | exact lay_da (by omega) | exact lay_sh (by omega) | exact lay_se (by omega)) rfl (by omega) ?_
    exact v_retI dX1_takePaper_61 trivial (by rw [u2_k _ _ _ _ (by decide), pm_h, tpI, bI_t hi]; exact ⟨rfl, rfl⟩)
  · refine v_ald0 dX1_takePaper_15 ?_
    refine v_getI dX1_takePaper_16 fl_X1_55 (by first | rfl | exact lay_door (by omega) | exact lay_dt (by omega) | exact lay_da (by omega) | exact lay_sh (by omega) | exact lay_se (by omega)) rfl (by omega) ?_
    refine v_if_ne (tgt := 57) dX1_takePaper_19 (by decide) (fun h19 => ?_) (fun h19 => absurd h19 (by rw [u2_s]; decide))
    refine v_ald0 dX1_takePaper_57 ?_
    refine v_getI dX1_takePaper_58 fl_X1_59 (by first | rfl | exact lay_door (by omega) | exact lay_dt (by omega) | exact lay_da (by omega) | exact lay_sh (by omega) | exact lay_se (by omega)) rfl (by omega) ?_
    exact v_retI dX1_takePaper_61 trivial (by rw [u2_k _ _ _ _ (by decide), pm_h, tpI, bI_t hi]; exact ⟨rfl, rfl⟩)

set_option maxRecDepth 4000 in
theorem lp_tp {G : GG} {dc : Nat} {J : Nat → Nat → Int32} {L : Nat → Nat → Int64} {d t : Nat} (hd : d < dc) (hdc : dc ≤ 24) (h5 : J (78 + 3 * d) 5 = nI t) (h7 : J (78 + 3 * d) 7 = nI 0) (ht : t ≤ 12) (k : Nat) : ∀ i, i + k = t → V G yX1_takePaper cX1_takePaper 2 (some .int) 1 0 0 7 [.ref (78 + 3 * d), .int (nI i)] [] (Mm dc (pm J d (J (78 + 3 * d + 1)) i) L) (Is (some (.int (nI (fzf (pT (J (78 + 3 * d + 1))) i k)))) (Mm dc (tpI J d (fzf (pT (J (78 + 3 * d + 1))) i k) t) L)) := by
  induction k with
  | zero =>
    intro i hi
    refine v_ild1 dX1_takePaper_7 ?_
    refine v_ald0 dX1_takePaper_8 ?_
    refine v_getI dX1_takePaper_9 fl_X1_48 (by first | rfl | exact lay_door (by omega) | exact lay_dt (by omega) | exact lay_da (by omega) | exact lay_sh (by omega) | exact lay_se (by omega)) rfl (by omega) ?_
    refine v_icmp_ge (tgt := 57) dX1_takePaper_12 (by decide) (fun h12 => ?_) (fun h12 => absurd (by rw [pm_f J d _ i (by decide), h5]; exact nI_le (by omega) (by omega)) h12)
    refine v_ald0 dX1_takePaper_57 ?_
    refine v_getI dX1_takePaper_58 fl_X1_59 (by first | rfl | exact lay_door (by omega) | exact lay_dt (by omega) | exact lay_da (by omega) | exact lay_sh (by omega) | exact lay_se (by omega)) rfl (by omega) ?_
    exact v_retI dX1_takePaper_61 trivial (by rw [pm_h, tpI, fzf, bI_f (by omega), u2_id _ _ _ (by rw [pm_f J d _ i (by decide), h7])]; exact ⟨rfl, rfl⟩)
  | succ k ih =>
    intro i hi
    refine v_ild1 dX1_takePaper_7 ?_
    refine v_ald0 dX1_takePaper_8 ?_
    refine v_getI dX1_takePaper_9 fl_X1_48 (by first | rfl | exact lay_door (by omega) | exact lay_dt (by omega) | exact lay_da (by omega) | exact lay_sh (by omega) | exact lay_se (by omega)) rfl (by omega) ?_
    refine v_icmp_ge (tgt := 57) dX1_takePaper_12 (by decide) (fun h12 => absurd h12 (by rw [pm_f J d _ i (by decide), h5]; exact nI_ge (by omega) (by omega))) (fun h12 => ?_)
    refine v_ald0 dX1_takePaper_15 ?_
    refine v_getI dX1_takePaper_16 fl_X1_55 (by first | rfl | exact lay_door (by omega) | exact lay_dt (by omega) | exact lay_da (by omega) | exact lay_sh (by omega) | exact lay_se (by omega)) rfl (by omega) ?_
    refine v_if_ne (tgt := 57) dX1_takePaper_19 (by decide) (fun h19 => absurd (by rw [pm_f J d _ i (by decide), h7]; rfl) h19) (fun h19 => ?_)
    refine v_ald0 dX1_takePaper_22 ?_
    refine v_getP dX1_takePaper_23 fl_X1_9 (by first | rfl | exact lay_door (by omega) | exact lay_dt (by omega) | exact lay_da (by omega) | exact lay_sh (by omega) | exact lay_se (by omega)) rfl (by omega) (by first | rfl | exact Pc_d (by omega) | exact Pc_dt (by omega) | exact Pc_da (by omega) | exact Pc_s (by omega) | exact Pc_se (by omega)) ?_
    refine v_ild1 dX1_takePaper_26 ?_
    refine v_iald dX1_takePaper_27 (by first | rfl | exact lay_door (by omega) | exact lay_dt (by omega) | exact lay_da (by omega) | exact lay_sh (by omega) | exact lay_se (by omega)) (by omega) ⟨rfl, by omega, by decide⟩ ?_
    refine v_bipush (v := -2) dX1_takePaper_28 (by decide) ?_
    rw [pm_o J d _ i (show 78 + 3 * d + 1 ≠ 78 + 3 * d by omega) (by omega)]
    refine v_icmp_ne (tgt := 41) dX1_takePaper_30 (by decide) (fun h30 => ?_) (fun h30 => ?_)
    · refine v_ald0 dX1_takePaper_41 ?_
      refine v_ald0 dX1_takePaper_42 ?_
      refine v_getP dX1_takePaper_43 fl_X1_9 (by first | rfl | exact lay_door (by omega) | exact lay_dt (by omega) | exact lay_da (by omega) | exact lay_sh (by omega) | exact lay_se (by omega)) rfl (by omega) (by first | rfl | exact Pc_d (by omega) | exact Pc_dt (by omega) | exact Pc_da (by omega) | exact Pc_s (by omega) | exact Pc_se (by omega)) ?_
      refine v_ild1 dX1_takePaper_46 ?_
      refine v_iald dX1_takePaper_47 (by first | rfl | exact lay_door (by omega) | exact lay_dt (by omega) | exact lay_da (by omega) | exact lay_sh (by omega) | exact lay_se (by omega)) (by omega) ⟨rfl, by omega, by decide⟩ ?_
      refine v_V1n (c_X1_addHead hd hdc (pm_h J d _ i) (by omega)) lk_X1_69 dX1_takePaper_48 (by decide) (Nat.le_of_ble_eq_true rfl) (by first | rfl | exact lay_door (by omega) | exact lay_dt (by omega) | exact lay_da (by omega) | exact lay_sh (by omega) | exact lay_se (by omega)) (show _ < 78 + 3 * _ by omega) ?_
      refine v_inc1 dX1_takePaper_51 rfl ?_
      refine v_goto (tgt := 7) dX1_takePaper_54 (by decide) ?_
      rw [nI_1 i]
      first | (rw [show fzf (pT (J (78 + 3 * d + 1))) i (k + 1) = i by simp only [fzf, pT, decide_eq_true h30, if_true]]; exact lp_tp1 hd hdc h5 ht (by omega)) | (rw [show fzf (pT (J (78 + 3 * d + 1))) i (k + 1) = fzf (pT (J (78 + 3 * d + 1))) (i + 1) k by simp only [fzf, pT, decide_eq_false h30]; rfl, pm_s J d (J (78 + 3 * d + 1)) (J (78 + 3 * d + 1)) i (pm_o J d _ i (by omega) (by omega)) (fun _ _ => rfl)]; exact ih (i + 1) (by omega))
    · refine v_ald0 dX1_takePaper_33 ?_
      refine v_icN (n := 1) dX1_takePaper_34 (by decide) ?_
      refine v_putZ dX1_takePaper_35 fl_X1_55 ft_1_7 (by first | rfl | exact lay_door (by omega) | exact lay_dt (by omega) | exact lay_da (by omega) | exact lay_sh (by omega) | exact lay_se (by omega)) rfl (by omega) (by first | exact Or.inl rfl | exact Or.inr rfl | exact bI_01) ?_
      refine v_goto (tgt := 51) dX1_takePaper_38 (by decide) ?_
      refine v_inc1 dX1_takePaper_51 rfl ?_
      refine v_goto (tgt := 7) dX1_takePaper_54 (by decide) ?_
      rw [nI_1 i]
      first | (rw [show fzf (pT (J (78 + 3 * d + 1))) i (k + 1) = i by simp only [fzf, pT, decide_eq_true h30, if_true]]; exact lp_tp1 hd hdc h5 ht (by omega)) | (rw [show fzf (pT (J (78 + 3 * d + 1))) i (k + 1) = fzf (pT (J (78 + 3 * d + 1))) (i + 1) k by simp only [fzf, pT, decide_eq_false h30]; rfl, pm_s J d (J (78 + 3 * d + 1)) (J (78 + 3 * d + 1)) i (pm_o J d _ i (by omega) (by omega)) (fun _ _ => rfl)]; exact ih (i + 1) (by omega))

set_option maxRecDepth 4000 in
theorem c_X1_takePaper {G : GG} {dc : Nat} {I : Nat → Nat → Int32} {L : Nat → Nat → Int64} {d : Nat} {t : Nat} (hd : d < dc) (hdc : dc ≤ 24) (h5 : I (78 + 3 * d) 5 = nI t) (ht : t ≤ 12) : Cn G yX1_takePaper cX1_takePaper 2 (some .int) 1 0 0 [.ref (78 + 3 * d)] (Mm dc I L) (Is (some (.int (nI (fzf (pT (I (78 + 3 * d + 1))) 0 t)))) (Mm dc (tpI (sR I d (nI 1)) d (fzf (pT (I (78 + 3 * d + 1))) 0 t) t) L)) := by
  refine Cn.of' (by decide) (Nat.le_of_ble_eq_true rfl) rfl ?_
  refine v_ald0 dX1_takePaper_0 ?_
  refine v_icN (n := 1) dX1_takePaper_1 (by decide) ?_
  refine v_V1n (c_X1_startReturn hd hdc) lk_X1_65 dX1_takePaper_2 (by decide) (Nat.le_of_ble_eq_true rfl) (by first | rfl | exact lay_door (by omega) | exact lay_dt (by omega) | exact lay_da (by omega) | exact lay_sh (by omega) | exact lay_se (by omega)) (show _ < 78 + 3 * _ by omega) ?_
  refine v_icN (n := 0) dX1_takePaper_5 (by decide) ?_
  refine v_ist1 dX1_takePaper_6 rfl ?_
  have h9 := lp_tp (G := G) (L := L) (J := sR I d (nI 1)) hd hdc (by simp [sR, u2, h5]) (by simp [sR, u2]) ht t 0 (by omega)
  rw [pm_0 (d := d) _ (by simp [sR, u2]), show sR I d (nI 1) (78 + 3 * d + 1) = I (78 + 3 * d + 1) by funext j; simp [sR, u2]] at h9
  exact h9

/-- what a row's element tells of an age -/
def agE (L : Nat → Nat → Int64) (s j : Nat) : Int32 := ageOf (L (23 + 2 * s + 1) j = -9223372036854775808) (L (23 + 2 * s + 1) j).toInt32

set_option maxRecDepth 4000 in
theorem lp_lt {G : GG} {dc : Nat} {J : Nat → Nat → Int32} {L : Nat → Nat → Int64} {d s z : Nat} (hd : d < dc) (hdc : dc ≤ 24) (hs : s < 8) (h5 : J (78 + 3 * d) 5 = nI z) (hz : J (23 + 2 * s) 2 = nI z) (hz2 : z ≤ 12) (k : Nat) : ∀ i, i + k = z → V G yX1_learnTruth cX1_learnTruth 3 (some .int) 3 0 0 15 [.ref (78 + 3 * d), .ref (23 + 2 * s), .int (nI i)] [] (Mm dc (rf2 J (78 + 3 * d + 1) i (agE L s)) L) (Is (some (.int (nI z))) (Mm dc (rf2 J (78 + 3 * d + 1) z (agE L s)) L)) := by
  induction k with
  | zero =>
    intro i hi
    refine v_ild2 dX1_learnTruth_15 ?_
    refine v_ald0 dX1_learnTruth_16 ?_
    refine v_getI dX1_learnTruth_17 fl_X1_48 (by first | rfl | exact lay_door (by omega) | exact lay_dt (by omega) | exact lay_da (by omega) | exact lay_sh (by omega) | exact lay_se (by omega)) rfl (by omega) ?_
    refine v_icmp_ge (tgt := 40) dX1_learnTruth_20 (by decide) (fun h20 => ?_) (fun h20 => absurd (by rw [rf2_o _ _ _ _ (by omega), h5]; exact nI_le (by omega) (by omega)) h20)
    refine v_ald0 dX1_learnTruth_40 ?_
    refine v_getI dX1_learnTruth_41 fl_X1_48 (by first | rfl | exact lay_door (by omega) | exact lay_dt (by omega) | exact lay_da (by omega) | exact lay_sh (by omega) | exact lay_se (by omega)) rfl (by omega) ?_
    exact v_retI dX1_learnTruth_44 trivial (by rw [rf2_o _ _ _ _ (by omega), h5, show i = z by omega]; exact ⟨rfl, rfl⟩)
  | succ k ih =>
    intro i hi
    refine v_ild2 dX1_learnTruth_15 ?_
    refine v_ald0 dX1_learnTruth_16 ?_
    refine v_getI dX1_learnTruth_17 fl_X1_48 (by first | rfl | exact lay_door (by omega) | exact lay_dt (by omega) | exact lay_da (by omega) | exact lay_sh (by omega) | exact lay_se (by omega)) rfl (by omega) ?_
    refine v_icmp_ge (tgt := 40) dX1_learnTruth_20 (by decide) (fun h20 => absurd h20 (by rw [rf2_o _ _ _ _ (by omega), h5]; exact nI_ge (by omega) (by omega))) (fun h20 => ?_)
    refine v_ald0 dX1_learnTruth_23 ?_
    refine v_getP dX1_learnTruth_24 fl_X1_9 (by first | rfl | exact lay_door (by omega) | exact lay_dt (by omega) | exact lay_da (by omega) | exact lay_sh (by omega) | exact lay_se (by omega)) rfl (by omega) (by first | rfl | exact Pc_d (by omega) | exact Pc_dt (by omega) | exact Pc_da (by omega) | exact Pc_s (by omega) | exact Pc_se (by omega)) ?_
    refine v_ild2 dX1_learnTruth_27 ?_
    refine v_ald1 dX1_learnTruth_28 ?_
    refine v_ild2 dX1_learnTruth_29 ?_
    refine v_V1 (c_X4_elementAsAge hs (z := z) (by rw [rf2_o _ _ _ _ (by omega)]; exact hz) (by omega) ⟨nI_pos (by omega), by rw [rf2_o _ _ _ _ (by omega), hz]; exact nI_ge (by omega) (by omega)⟩) lk_X1_51 dX1_learnTruth_30 (by decide) (Nat.le_of_ble_eq_true rfl) (by first | rfl | exact lay_door (by omega) | exact lay_dt (by omega) | exact lay_da (by omega) | exact lay_sh (by omega) | exact lay_se (by omega)) (show _ < 78 + 3 * _ by omega) ?_
    refine v_iast dX1_learnTruth_33 (by first | rfl | exact lay_door (by omega) | exact lay_dt (by omega) | exact lay_da (by omega) | exact lay_sh (by omega) | exact lay_se (by omega)) (by omega) ⟨rfl, by omega, by decide⟩ ?_
    refine v_inc2 dX1_learnTruth_34 rfl ?_
    refine v_goto (tgt := 15) dX1_learnTruth_37 (by decide) ?_
    rw [nI_1 i, rf2_s J (78 + 3 * d + 1) i (agE L s) (by rw [agE, tn_nI (by omega)])]
    exact ih (i + 1) (by omega)

set_option maxRecDepth 4000 in
theorem c_X1_learnTruth {G : GG} {dc : Nat} {I : Nat → Nat → Int32} {L : Nat → Nat → Int64} {d : Nat} {s z : Nat} (hd : d < dc) (hdc : dc ≤ 24) (hs : s < 8) (hz : I (23 + 2 * s) 2 = nI z) (hz2 : z ≤ 12) : Cn G yX1_learnTruth cX1_learnTruth 3 (some .int) 3 0 0 [.ref (78 + 3 * d), .ref (23 + 2 * s)] (Mm dc I L) (Is (some (.int (nI z))) (Mm dc (rf2 (u2 I (78 + 3 * d) 5 (nI z)) (78 + 3 * d + 1) z (agE L s)) L)) := by
  refine Cn.of' (by decide) (Nat.le_of_ble_eq_true rfl) rfl ?_
  refine v_ald0 dX1_learnTruth_0 ?_
  refine v_ald1 dX1_learnTruth_1 ?_
  refine v_getI dX1_learnTruth_2 fl_X1_37 (by first | rfl | exact lay_door (by omega) | exact lay_dt (by omega) | exact lay_da (by omega) | exact lay_sh (by omega) | exact lay_se (by omega)) rfl (by omega) ?_
  refine v_bipush (v := nI 12) dX1_learnTruth_5 (by decide) ?_
  refine v_mmin dX1_learnTruth_7 lj_X1_42 (by decide) (Nat.le_of_ble_eq_true rfl) ?_
  rw [hz, if_neg (show ¬ nI 12 < nI z from nI_nlt hz2 (by decide))]
  refine v_putI dX1_learnTruth_10 fl_X1_48 ft_1_5 (by first | rfl | exact lay_door (by omega) | exact lay_dt (by omega) | exact lay_da (by omega) | exact lay_sh (by omega) | exact lay_se (by omega)) rfl (by omega) ?_
  refine v_icN (n := 0) dX1_learnTruth_13 (by decide) ?_
  refine v_ist2 dX1_learnTruth_14 rfl ?_
  have h9 := lp_lt (G := G) (L := L) (J := u2 I (78 + 3 * d) 5 (nI z)) hd hdc hs (u2_s _ _ _ _) (by rw [u2_a _ _ _ _ (by omega)]; exact hz) hz2 z 0 (by omega)
  rw [rf2_0] at h9
  exact h9
