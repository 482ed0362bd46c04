/-- the small cells and those above 0, of the first j -/
def smF (I : Nat → Nat → Int32) (v : Int32) : Nat → Int32
  | 0 => nI 0
  | j + 1 => if I 16 j ≤ 0 then smF I v j else smF I v j ||| (if v ≤ I 16 j then nI 0 else nI 1 <<< (nI j &&& 31))
def psF (I : Nat → Nat → Int32) : Nat → Int32
  | 0 => nI 0
  | j + 1 => if I 16 j ≤ 0 then psF I j else psF I j ||| (nI 1 <<< (nI j &&& 31))
def fnM (I : Nat → Nat → Int32) (v : Int32) (j : Nat) : Nat → Nat → Int32 := u2 (u2 I 18 0 (smF I v j)) 18 1 (psF I j)
theorem u2_4 (I : Nat → Nat → Int32) (a b a' b' : Int32) : u2 (u2 (u2 (u2 I 18 0 a) 18 1 b) 18 1 b') 18 0 a' = u2 (u2 I 18 0 a') 18 1 b' := by
  funext x j
  simp only [u2]
  by_cases h0 : x = 18 ∧ j = 0
  · rw [if_pos h0, if_neg (fun q => by omega), if_pos h0]
  · by_cases h1 : x = 18 ∧ j = 1
    · rw [if_neg h0, if_pos h1, if_pos h1]
    · rw [if_neg h0, if_neg h1, if_neg h1, if_neg h0, if_neg h1, if_neg h0]
theorem fn_o (I : Nat → Nat → Int32) (v : Int32) (j : Nat) {x : Nat} (q : Nat) (h : x ≠ 18) : fnM I v j x q = I x q := by
  unfold fnM
  rw [u2_a _ _ _ _ h, u2_a _ _ _ _ h]
theorem fn_s (I : Nat → Nat → Int32) (v : Int32) (j : Nat) : fnM I v j 18 0 = smF I v j ∧ fnM I v j 18 1 = psF I j := by
  unfold fnM
  exact ⟨by rw [u2_k _ _ _ _ (by decide), u2_s], u2_s _ _ _ _⟩
/-- the least number of others with which a set is found -/
def foF (g : Nat → Int32) : Nat → Nat → Int32
  | 0, _ => -1
  | k + 1, i => if g i = -1 then foF g k (i + 1) else g i
def fdR (I : Nat → Nat → Int32) (v : Int32) : Int32 := foF (fun i => chF (smF I v 24) (psF I 24) i 0 (smF I v 24)) 5 0

set_option maxRecDepth 4000 in
theorem lp_fn3 {G : GG} {μ : Mem} {v f : Int32} (hf : ¬ f = -1) {i : Nat} : V G yX2_find cX2_find 5 (some .int) 8 0 0 76 [.ref 18, .ref 16, .int v, .int f, .int (nI i)] [] μ (Is (some (.int f)) μ) := by
  refine v_ild4 dX2_find_76 ?_
  refine v_icN (n := 4) dX2_find_78 (by decide) ?_
  refine v_icmp_gt (tgt := 105) dX2_find_79 (by decide) (fun h79 => ?_) (fun h79 => ?_)
  · refine v_ild3 dX2_find_105 ?_
    exact v_retI dX2_find_106 trivial ⟨rfl, rfl⟩
  · refine v_ild3 dX2_find_82 ?_
    refine v_icm1 dX2_find_83 ?_
    refine v_icmp_ne (tgt := 105) dX2_find_84 (by decide) (fun h84 => ?_) (fun h84 => absurd h84 hf)
    refine v_ild3 dX2_find_105 ?_
    exact v_retI dX2_find_106 trivial ⟨rfl, rfl⟩

set_option maxRecDepth 4000 in
theorem lp_fn2 {G : GG} {dc : Nat} {I : Nat → Nat → Int32} {L : Nat → Nat → Int64} {v : Int32} (k : Nat) : ∀ i, i + k = 5 → V G yX2_find cX2_find 5 (some .int) 8 0 0 76 [.ref 18, .ref 16, .int v, .int (-1), .int (nI i)] [] (Mm dc I L) (Is (some (.int (foF (fun i => chF (I 18 0) (I 18 1) i 0 (I 18 0)) k i))) (Mm dc I L)) := by
  induction k with
  | zero =>
    intro i hi
    refine v_ild4 dX2_find_76 ?_
    refine v_icN (n := 4) dX2_find_78 (by decide) ?_
    refine v_icmp_gt (tgt := 105) dX2_find_79 (by decide) (fun h79 => ?_) (fun h79 => absurd (nI_lt (by omega) (by omega)) h79)
    refine v_ild3 dX2_find_105 ?_
    exact v_retI dX2_find_106 trivial ⟨rfl, rfl⟩
  | succ k ih =>
    intro i hi
    refine v_ild4 dX2_find_76 ?_
    refine v_icN (n := 4) dX2_find_78 (by decide) ?_
    refine v_icmp_gt (tgt := 105) dX2_find_79 (by decide) (fun h79 => absurd h79 (nI_nlt (by omega) (by omega))) (fun h79 => ?_)
    refine v_ild3 dX2_find_82 ?_
    refine v_icm1 dX2_find_83 ?_
    refine v_icmp_ne (tgt := 105) dX2_find_84 (by decide) (fun h84 => absurd rfl h84) (fun h84 => ?_)
    refine v_ald0 dX2_find_87 ?_
    refine v_icN (n := 0) dX2_find_88 (by decide) ?_
    refine v_ald0 dX2_find_89 ?_
    refine v_getI dX2_find_90 fl_X2_11 (by first | rfl | exact lay_door (by omega) | exact lay_dt (by omega) | exact lay_da (by omega) | exact lay_sh (by omega) | exact lay_se (by omega)) rfl (by omega) ?_
    refine v_ild4 dX2_find_93 ?_
    refine v_S4 (c_X2_choose i (by omega) 0 _ (by decide)) lk_X2_20 dX2_find_95 (by omega) (Nat.le_of_ble_eq_true rfl) ?_
    refine v_ist3 dX2_find_98 rfl ?_
    refine v_inc4 dX2_find_99 rfl ?_
    refine v_goto (tgt := 76) dX2_find_102 (by decide) ?_
    rw [nI_1 i, foF]
    by_cases hg : chF (I 18 0) (I 18 1) i 0 (I 18 0) = -1
    · rw [if_pos hg, hg]; exact ih (i + 1) (by omega)
    · rw [if_neg hg]; exact lp_fn3 hg

set_option maxRecDepth 4000 in
theorem lp_fn {G : GG} {dc : Nat} {I : Nat → Nat → Int32} {L : Nat → Nat → Int64} {v : Int32} (k : Nat) : ∀ i, i + k = 24 → ∀ u4 : Value, V G yX2_find cX2_find 5 (some .int) 8 0 0 12 [.ref 18, .ref 16, .int v, .int (nI i), u4] [] (Mm dc (fnM I v i) L) (Is (some (.int (fdR I v))) (Mm dc (fnM I v 24) L)) := by
  induction k with
  | zero =>
    intro i hi u4
    refine v_ild3 dX2_find_12 ?_
    refine v_bipush (v := nI 24) dX2_find_13 (by decide) ?_
    refine v_icmp_ge (tgt := 71) dX2_find_15 (by decide) (fun h15 => ?_) (fun h15 => absurd (nI_le (by omega) (by omega)) h15)
    refine v_icm1 dX2_find_71 ?_
    refine v_ist3 dX2_find_72 rfl ?_
    refine v_icN (n := 0) dX2_find_73 (by decide) ?_
    refine v_ist4 dX2_find_74 rfl ?_
    have h9 := lp_fn2 (G := G) (dc := dc) (L := L) (v := v) (I := fnM I v 24) 5 0 (by omega)
    rw [(fn_s I v 24).1, (fn_s I v 24).2] at h9
    rw [show i = 24 by omega]
    exact h9
  | succ k ih =>
    intro i hi u4
    refine v_ild3 dX2_find_12 ?_
    refine v_bipush (v := nI 24) dX2_find_13 (by decide) ?_
    refine v_icmp_ge (tgt := 71) dX2_find_15 (by decide) (fun h15 => absurd h15 (nI_ge (by omega) (by omega))) (fun h15 => ?_)
    refine v_ild3 dX2_find_18 ?_
    refine v_ald1 dX2_find_19 ?_
    refine v_alen (Or.inl rfl) dX2_find_20 (by first | rfl | exact lay_door (by omega) | exact lay_dt (by omega) | exact lay_da (by omega) | exact lay_sh (by omega) | exact lay_se (by omega)) (show _ < 78 + 3 * _ by omega) rfl ?_
    refine v_icmp_ge (tgt := 71) dX2_find_21 (by decide) (fun h21 => absurd h21 (nI_ge (by omega) (by decide))) (fun h21 => ?_)
    refine v_ald1 dX2_find_24 ?_
    refine v_ild3 dX2_find_25 ?_
    refine v_iald dX2_find_26 (by first | rfl | exact lay_door (by omega) | exact lay_dt (by omega) | exact lay_da (by omega) | exact lay_sh (by omega) | exact lay_se (by omega)) (by omega) ⟨rfl, by omega, by decide⟩ ?_
    rw [fn_o I v i i (show (16 : Nat) ≠ 18 by decide)]
    refine v_if_le (tgt := 65) dX2_find_27 (by decide) (fun h27 => ?_) (fun h27 => ?_)
    · refine v_inc3 dX2_find_65 rfl ?_
      refine v_goto (tgt := 12) dX2_find_68 (by decide) ?_
      have h9 := ih (i + 1) (by omega)
      rw [nI_1 i]
      rw [show fnM I v (i + 1) = fnM I v i by unfold fnM; simp only [smF, psF, if_pos h27]] at h9
      exact h9 _
    · refine v_ald0 dX2_find_30 ?_
      refine v_dupR dX2_find_31 ?_
      refine v_getI dX2_find_32 fl_X2_17 (by first | rfl | exact lay_door (by omega) | exact lay_dt (by omega) | exact lay_da (by omega) | exact lay_sh (by omega) | exact lay_se (by omega)) rfl (by omega) ?_
      refine v_icN (n := 1) dX2_find_35 (by decide) ?_
      refine v_ild3 dX2_find_36 ?_
      refine v_ishl dX2_find_37 ?_
      refine v_ior dX2_find_38 ?_
      refine v_putI dX2_find_39 fl_X2_17 ft_2_1 (by first | rfl | exact lay_door (by omega) | exact lay_dt (by omega) | exact lay_da (by omega) | exact lay_sh (by omega) | exact lay_se (by omega)) rfl (by omega) ?_
      refine v_ald0 dX2_find_42 ?_
      refine v_dupR dX2_find_43 ?_
      refine v_getI dX2_find_44 fl_X2_11 (by first | rfl | exact lay_door (by omega) | exact lay_dt (by omega) | exact lay_da (by omega) | exact lay_sh (by omega) | exact lay_se (by omega)) rfl (by omega) ?_
      refine v_ald1 dX2_find_47 ?_
      refine v_ild3 dX2_find_48 ?_
      refine v_iald dX2_find_49 (by first | rfl | exact lay_door (by omega) | exact lay_dt (by omega) | exact lay_da (by omega) | exact lay_sh (by omega) | exact lay_se (by omega)) (by omega) ⟨rfl, by omega, by decide⟩ ?_
      refine v_ild2 dX2_find_50 ?_
      rw [show u2 (fnM I v i) 18 1 (fnM I v i 18 1 ||| (nI 1 <<< (nI i &&& 31))) 16 i = I 16 i by rw [u2_a _ _ _ _ (by decide), fn_o _ _ _ _ (by decide)]]
      refine v_icmp_ge (tgt := 60) dX2_find_51 (by decide) (fun h51 => ?_) (fun h51 => ?_)
      · refine v_icN (n := 0) dX2_find_60 (by decide) ?_
        refine v_ior dX2_find_61 ?_
        refine v_putI dX2_find_62 fl_X2_11 ft_2_0 (by first | rfl | exact lay_door (by omega) | exact lay_dt (by omega) | exact lay_da (by omega) | exact lay_sh (by omega) | exact lay_se (by omega)) rfl (by omega) ?_
        refine v_inc3 dX2_find_65 rfl ?_
        refine v_goto (tgt := 12) dX2_find_68 (by decide) ?_
        have h9 := ih (i + 1) (by omega)
        rw [nI_1 i]
        rw [show fnM I v (i + 1) = u2 (u2 (fnM I v i) 18 1 (psF I i ||| (nI 1 <<< (nI i &&& 31)))) 18 0 (smF I v i ||| nI 0) by unfold fnM; rw [u2_4]; simp only [smF, psF, if_neg h27, if_pos h51]] at h9
        rw [(fn_s I v i).2, u2_k _ _ _ _ (show (0 : Nat) ≠ 1 by decide), (fn_s I v i).1]
        exact h9 _
      · refine v_icN (n := 1) dX2_find_54 (by decide) ?_
        refine v_ild3 dX2_find_55 ?_
        refine v_ishl dX2_find_56 ?_
        refine v_goto (tgt := 61) dX2_find_57 (by decide) ?_
        refine v_ior dX2_find_61 ?_
        refine v_putI dX2_find_62 fl_X2_11 ft_2_0 (by first | rfl | exact lay_door (by omega) | exact lay_dt (by omega) | exact lay_da (by omega) | exact lay_sh (by omega) | exact lay_se (by omega)) rfl (by omega) ?_
        refine v_inc3 dX2_find_65 rfl ?_
        refine v_goto (tgt := 12) dX2_find_68 (by decide) ?_
        have h9 := ih (i + 1) (by omega)
        rw [nI_1 i]
        rw [show fnM I v (i + 1) = u2 (u2 (fnM I v i) 18 1 (psF I i ||| (nI 1 <<< (nI i &&& 31)))) 18 0 (smF I v i ||| (nI 1 <<< (nI i &&& 31))) by unfold fnM; rw [u2_4]; simp only [smF, psF, if_neg h27, if_neg h51]] at h9
        rw [(fn_s I v i).2, u2_k _ _ _ _ (show (0 : Nat) ≠ 1 by decide), (fn_s I v i).1]
        exact h9 _

set_option maxRecDepth 4000 in
theorem c_X2_find {G : GG} {dc : Nat} {I : Nat → Nat → Int32} {L : Nat → Nat → Int64} {v : Int32} : Cn G yX2_find cX2_find 5 (some .int) 8 0 0 [.ref 18, .ref 16, .int v] (Mm dc I L) (Is (some (.int (fdR I v))) (Mm dc (fnM I v 24) L)) := by
  refine Cn.of' (by decide) (Nat.le_of_ble_eq_true rfl) rfl ?_
  refine v_ald0 dX2_find_0 ?_
  refine v_icN (n := 0) dX2_find_1 (by decide) ?_
  refine v_putI dX2_find_2 fl_X2_11 ft_2_0 (by first | rfl | exact lay_door (by omega) | exact lay_dt (by omega) | exact lay_da (by omega) | exact lay_sh (by omega) | exact lay_se (by omega)) rfl (by omega) ?_
  refine v_ald0 dX2_find_5 ?_
  refine v_icN (n := 0) dX2_find_6 (by decide) ?_
  refine v_putI dX2_find_7 fl_X2_17 ft_2_1 (by first | rfl | exact lay_door (by omega) | exact lay_dt (by omega) | exact lay_da (by omega) | exact lay_sh (by omega) | exact lay_se (by omega)) rfl (by omega) ?_
  refine v_icN (n := 0) dX2_find_10 (by decide) ?_
  refine v_ist3 dX2_find_11 rfl ?_
  exact lp_fn 24 0 (by omega) _

def mkI (I : Nat → Nat → Int32) (v : Int32) : Nat → Nat → Int32 := if fdR I v = -1 then fnM I v 24 else u2 (u2 (cp2 (fnM I v 24) 16 17 0 0 24) 15 4 (fdR I v)) 15 5 (nI 1)

set_option maxRecDepth 4000 in
theorem c_X6_make {G : GG} {dc : Nat} {I : Nat → Nat → Int32} {L : Nat → Nat → Int64} {v : Int32} : Cn G yX6_make cX6_make 3 (some .boolean) 9 0 0 [.ref 15, .int v] (Mm dc I L) (Is (some (.int (bI (¬ fdR I v = -1)))) (Mm dc (mkI I v) L)) := by
  refine Cn.of' (by decide) (Nat.le_of_ble_eq_true rfl) rfl ?_
  refine v_ald0 dX6_make_0 ?_
  refine v_getP (q := 18) dX6_make_1 fl_X6_21 (by first | rfl | exact lay_door (by omega) | exact lay_dt (by omega) | exact lay_da (by omega) | exact lay_sh (by omega) | exact lay_se (by omega)) rfl (by omega) rfl ?_
  refine v_ald0 dX6_make_4 ?_
  refine v_getP (q := 16) dX6_make_5 fl_X6_11 (by first | rfl | exact lay_door (by omega) | exact lay_dt (by omega) | exact lay_da (by omega) | exact lay_sh (by omega) | exact lay_se (by omega)) rfl (by omega) rfl ?_
  refine v_ild1 dX6_make_8 ?_
  refine v_V2 c_X2_find lk_X6_36 dX6_make_9 (by decide) (Nat.le_of_ble_eq_true rfl) (by first | rfl | exact lay_door (by omega) | exact lay_dt (by omega) | exact lay_da (by omega) | exact lay_sh (by omega) | exact lay_se (by omega)) (show _ < 78 + 3 * _ by omega) ?_
  refine v_ist2 dX6_make_12 rfl ?_
  refine v_ild2 dX6_make_13 ?_
  refine v_icm1 dX6_make_14 ?_
  refine v_icmp_ne (tgt := 20) dX6_make_15 (by decide) (fun h15 => ?_) (fun h15 => ?_)
  · refine v_ald0 dX6_make_20 ?_
    refine v_getP (q := 16) dX6_make_21 fl_X6_11 (by first | rfl | exact lay_door (by omega) | exact lay_dt (by omega) | exact lay_da (by omega) | exact lay_sh (by omega) | exact lay_se (by omega)) rfl (by omega) rfl ?_
    refine v_icN (n := 0) dX6_make_24 (by decide) ?_
    refine v_ald0 dX6_make_25 ?_
    refine v_getP (q := 17) dX6_make_26 fl_X6_15 (by first | rfl | exact lay_door (by omega) | exact lay_dt (by omega) | exact lay_da (by omega) | exact lay_sh (by omega) | exact lay_se (by omega)) rfl (by omega) rfl ?_
    refine v_icN (n := 0) dX6_make_29 (by decide) ?_
    refine v_bipush (v := nI 24) dX6_make_30 (by decide) ?_
    refine v_copyI dX6_make_32 lj_X6_40 (by decide) (Nat.le_of_ble_eq_true rfl) rfl rfl (by omega) (by omega) (i := 0) (j := 0) (k0 := 24) rfl rfl rfl (by decide) (by decide) (by decide) (by decide) ?_
    refine v_ald0 dX6_make_35 ?_
    refine v_ild2 dX6_make_36 ?_
    refine v_putI dX6_make_37 fl_X6_46 ft_6_4 (by first | rfl | exact lay_door (by omega) | exact lay_dt (by omega) | exact lay_da (by omega) | exact lay_sh (by omega) | exact lay_se (by omega)) rfl (by omega) ?_
    refine v_ald0 dX6_make_40 ?_
    refine v_icN (n := 1) dX6_make_41 (by decide) ?_
    refine v_putZ dX6_make_42 fl_X6_50 ft_6_5 (by first | rfl | exact lay_door (by omega) | exact lay_dt (by omega) | exact lay_da (by omega) | exact lay_sh (by omega) | exact lay_se (by omega)) rfl (by omega) (by first | exact Or.inl rfl | exact Or.inr rfl | exact bI_01) ?_
    refine v_icN (n := 1) dX6_make_45 (by decide) ?_
    exact v_retI dX6_make_46 (by first | exact Or.inl rfl | exact Or.inr rfl | exact bI_01) (by rw [mkI, if_neg h15, bI_t h15]; exact ⟨rfl, rfl⟩)
  · refine v_icN (n := 0) dX6_make_18 (by decide) ?_
    exact v_retI dX6_make_19 (by first | exact Or.inl rfl | exact Or.inr rfl | exact bI_01) (by rw [mkI, if_pos h15, bI_f (fun z => z h15)]; exact ⟨rfl, rfl⟩)

/-- the heads of a block in a band, of all returns -/
def tbC (dc : Nat) (I : Nat → Nat → Int32) (r c : Nat) : Int32 := sC (pCo I (nI r) (nI 1)) (fBd I (nI c)) dc
def dfM (dc : Nat) (I : Nat → Nat → Int32) (n : Nat) : Nat → Nat → Int32 := rf2 I 16 n (fun j => tbC dc I (j / 4) (j % 4))
theorem df_o (dc : Nat) (I : Nat → Nat → Int32) (n : Nat) {x : Nat} (j : Nat) (h : x ≠ 16) : dfM dc I n x j = I x j := rf2_o _ _ _ _ h
theorem pB_cong {I J : Nat → Nat → Int32} (d : Nat) (b : Int32) (h1 : I (78 + 3 * d) 9 = J (78 + 3 * d) 9) (h2 : ∀ j, I (78 + 3 * d + 2) j = J (78 + 3 * d + 2) j) : pB I d b = pB J d b := by
  funext j
  unfold pB
  rw [h1, h2 j]
theorem tbC_df (dc : Nat) (I : Nat → Nat → Int32) (n r c : Nat) : tbC dc (dfM dc I n) r c = tbC dc I r c := by
  unfold tbC
  refine sC_cong (fun d hd => ⟨?_, fun _ => ?_⟩)
  · unfold pCo
    rw [df_o _ _ _ _ (by omega), df_o _ _ _ _ (by omega)]
  · unfold fBd hdn
    rw [df_o _ _ _ _ (by omega), pB_cong (J := I) d _ (df_o _ _ _ _ (by omega)) (fun j => df_o _ _ _ _ (by omega))]
theorem Wx_df {dc : Nat} {I : Nat → Nat → Int32} (hW : Wx dc I) (n : Nat) : Wx dc (dfM dc I n) := by
  obtain ⟨q1, q2, q3, q4⟩ := hW
  refine ⟨q1, ?_, fun s hs => ?_, fun f hf => ?_⟩
  · rw [df_o _ _ _ _ (by omega)]; exact q2
  · rw [df_o _ _ _ _ (by omega)]; exact q3 s hs
  · rw [df_o _ _ _ _ (by omega), df_o _ _ _ _ (by omega), df_o _ _ _ _ (by omega), df_o _ _ _ _ (by omega)]
    exact q4 f hf
theorem isC_nI {r c : Nat} (hr : r < 6) (hc : c < 4) : isC (nI r) (nI c) := ⟨inR_nI hr (by decide), inR_nI hc (by decide)⟩
def dTab (I : Nat → Nat → Int32) : Nat := if I 0 9 = 0 then 6 else 0
def tbJ (dc : Nat) (I : Nat → Nat → Int32) : Nat → Nat → Int32 := mkI (dfM dc I 24) (I 4 2)
def tbI (dc : Nat) (I : Nat → Nat → Int32) : Nat → Nat → Int32 := if fdR (dfM dc I 24) (I 4 2) = -1 then rfs (tbJ dc I) 6 else tbJ dc I
def tbR (dc : Nat) (I : Nat → Nat → Int32) : Int32 := if fdR (dfM dc I 24) (I 4 2) = -1 then -6 else bc32 (tbJ dc I 15 4)

theorem c_cntT {G : GG} {dc : Nat} {I : Nat → Nat → Int32} {L : Nat → Nat → Int64} {r c : Nat} (hW : Wx dc I) (hr : r < 6) (hc : c < 4) : Cn G yX8_count cX8_count 7 (some .int) 2 0 0 [.ref 0, .int (nI r), .int (nI c), .int (nI 1)] (Mm dc I L) (Is (some (.int (tbC dc I r c))) (Mm dc I L)) := by
  have h := c_X8_count (G := G) (dc := dc) (I := I) (L := L) (b := nI r) (v := nI c) (w := nI 1) hW
  rw [if_pos (inR_nI hr (by decide)), if_neg (nI_pos (by omega)), if_pos (nI_lt hc (by decide))] at h
  exact h

set_option maxRecDepth 4000 in
theorem lp_tb2 {G : GG} {dc : Nat} {I : Nat → Nat → Int32} {L : Nat → Nat → Int64} {r : Nat} (hW : Wx dc I) (hr : r < 6) (hk : V G yX8_table cX8_table 3 (some .int) 10 0 0 16 [.ref 0, .int (nI (r + 1)), .int (nI 4)] [] (Mm dc (dfM dc I ((r + 1) * 4)) L) (Is (some (.int (tbR dc I))) (Mm dc (tbI dc I) L))) (k : Nat) : ∀ i, i + k = 4 → V G yX8_table cX8_table 3 (some .int) 10 0 0 24 [.ref 0, .int (nI r), .int (nI i)] [] (Mm dc (dfM dc I (r * 4 + i)) L) (Is (some (.int (tbR dc I))) (Mm dc (tbI dc I) L)) := by
  induction k with
  | zero =>
    intro i hi
    refine v_ild2 dX8_table_24 ?_
    refine v_icN (n := 4) dX8_table_25 (by decide) ?_
    refine v_icmp_ge (tgt := 51) dX8_table_26 (by decide) (fun h26 => ?_) (fun h26 => absurd (nI_le (by omega) (by omega)) h26)
    refine v_inc1 dX8_table_51 rfl ?_
    refine v_goto (tgt := 16) dX8_table_54 (by decide) ?_
    rw [nI_1 r, show i = 4 by omega, show r * 4 + 4 = (r + 1) * 4 by omega]
    exact hk
  | succ k ih =>
    intro i hi
    refine v_ild2 dX8_table_24 ?_
    refine v_icN (n := 4) dX8_table_25 (by decide) ?_
    refine v_icmp_ge (tgt := 51) dX8_table_26 (by decide) (fun h26 => absurd h26 (nI_ge (by omega) (by omega))) (fun h26 => ?_)
    refine v_ald0 dX8_table_29 ?_
    refine v_getP (q := 15) dX8_table_30 fl_X8_49 (by first | rfl | exact lay_door (by omega) | exact lay_dt (by omega) | exact lay_da (by omega) | exact lay_sh (by omega) | exact lay_se (by omega)) rfl (by omega) rfl ?_
    refine v_ild1 dX8_table_33 ?_
    refine v_ild2 dX8_table_34 ?_
    refine v_ald0 dX8_table_35 ?_
    refine v_ild1 dX8_table_36 ?_
    refine v_ild2 dX8_table_37 ?_
    refine v_icN (n := 1) dX8_table_38 (by decide) ?_
    refine v_V3 (c_cntT (Wx_df hW _) hr (by omega)) lk_X8_266 dX8_table_39 (by decide) (Nat.le_of_ble_eq_true rfl) (by first | rfl | exact lay_door (by omega) | exact lay_dt (by omega) | exact lay_da (by omega) | exact lay_sh (by omega) | exact lay_se (by omega)) (show _ < 78 + 3 * _ by omega) ?_
    refine v_V3n (c_X6_draft (isC_nI hr (by omega))) lk_X8_270 dX8_table_42 (by decide) (Nat.le_of_ble_eq_true rfl) (by first | rfl | exact lay_door (by omega) | exact lay_dt (by omega) | exact lay_da (by omega) | exact lay_sh (by omega) | exact lay_se (by omega)) (show _ < 78 + 3 * _ by omega) ?_
    refine v_inc2 dX8_table_45 rfl ?_
    refine v_goto (tgt := 24) dX8_table_48 (by decide) ?_
    rw [nI_1 i]
    have h9 := ih (i + 1) (by omega)
    rw [show u2 (dfM dc I (r * 4 + i)) 16 (tn (nI r) * 4 + tn (nI i)) (tbC dc (dfM dc I (r * 4 + i)) r i) = dfM dc I (r * 4 + (i + 1)) by rw [tn_nI (by omega), tn_nI (by omega), tbC_df]; exact rf2_s I 16 (r * 4 + i) _ (by rw [show (r * 4 + i) / 4 = r by omega, show (r * 4 + i) % 4 = i by omega])]
    exact h9

set_option maxRecDepth 4000 in
theorem lp_tb {G : GG} {dc : Nat} {I : Nat → Nat → Int32} {L : Nat → Nat → Int64} (hW : Wx dc I) (k : Nat) : ∀ r (u : Value), r + k = 6 → V G yX8_table cX8_table 3 (some .int) 10 0 0 16 [.ref 0, .int (nI r), u] [] (Mm dc (dfM dc I (r * 4)) L) (Is (some (.int (tbR dc I))) (Mm dc (tbI dc I) L)) := by
  induction k with
  | zero =>
    intro i u hi
    rw [show i = 6 by omega]
    refine v_ild1 dX8_table_16 ?_
    refine v_bipush (v := nI 6) dX8_table_17 (by decide) ?_
    refine v_icmp_ge (tgt := 57) dX8_table_19 (by decide) (fun h19 => ?_) (fun h19 => absurd (nI_le (by omega) (by omega)) h19)
    refine v_ald0 dX8_table_57 ?_
    refine v_getP (q := 15) dX8_table_58 fl_X8_49 (by first | rfl | exact lay_door (by omega) | exact lay_dt (by omega) | exact lay_da (by omega) | exact lay_sh (by omega) | exact lay_se (by omega)) rfl (by omega) rfl ?_
    refine v_ald0 dX8_table_61 ?_
    refine v_getP (q := 4) dX8_table_62 fl_X8_28 (by first | rfl | exact lay_door (by omega) | exact lay_dt (by omega) | exact lay_da (by omega) | exact lay_sh (by omega) | exact lay_se (by omega)) rfl (by omega) rfl ?_
    refine v_getI dX8_table_65 fl_X8_273 (by first | rfl | exact lay_door (by omega) | exact lay_dt (by omega) | exact lay_da (by omega) | exact lay_sh (by omega) | exact lay_se (by omega)) rfl (by omega) ?_
    rw [df_o dc I (6 * 4) 2 (show (4 : Nat) ≠ 16 by decide)]
    refine v_V1 c_X6_make lk_X8_276 dX8_table_68 (by decide) (Nat.le_of_ble_eq_true rfl) (by first | rfl | exact lay_door (by omega) | exact lay_dt (by omega) | exact lay_da (by omega) | exact lay_sh (by omega) | exact lay_se (by omega)) (show _ < 78 + 3 * _ by omega) ?_
    refine v_ifeq_b (tgt := 84) dX8_table_71 (by decide) (fun h71 => ?_) (fun h71 => ?_)
    · refine v_ald0 dX8_table_84 ?_
      refine v_bipush (v := -6) dX8_table_85 (by decide) ?_
      refine v_V1 (c_X8_refuse (k := 6) (by decide) (by decide) (by decide)) lk_X8_58 dX8_table_87 (by decide) (Nat.le_of_ble_eq_true rfl) (by first | rfl | exact lay_door (by omega) | exact lay_dt (by omega) | exact lay_da (by omega) | exact lay_sh (by omega) | exact lay_se (by omega)) (show _ < 78 + 3 * _ by omega) ?_
      exact v_retI dX8_table_90 trivial (by rw [tbR, tbI, if_pos (Classical.not_not.mp h71), if_pos (Classical.not_not.mp h71)]; exact ⟨rfl, rfl⟩)
    · refine v_ald0 dX8_table_74 ?_
      refine v_getP (q := 15) dX8_table_75 fl_X8_49 (by first | rfl | exact lay_door (by omega) | exact lay_dt (by omega) | exact lay_da (by omega) | exact lay_sh (by omega) | exact lay_se (by omega)) rfl (by omega) rfl ?_
      refine v_V0 c_X6_hiddenCells lk_X8_279 dX8_table_78 (by decide) (Nat.le_of_ble_eq_true rfl) (by first | rfl | exact lay_door (by omega) | exact lay_dt (by omega) | exact lay_da (by omega) | exact lay_sh (by omega) | exact lay_se (by omega)) (show _ < 78 + 3 * _ by omega) ?_
      refine v_goto (tgt := 90) dX8_table_81 (by decide) ?_
      exact v_retI dX8_table_90 trivial (by rw [tbR, tbI, if_neg h71, if_neg h71]; exact ⟨rfl, rfl⟩)
  | succ k ih =>
    intro i u hi
    refine v_ild1 dX8_table_16 ?_
    refine v_bipush (v := nI 6) dX8_table_17 (by decide) ?_
    refine v_icmp_ge (tgt := 57) dX8_table_19 (by decide) (fun h19 => absurd h19 (nI_ge (by omega) (by omega))) (fun h19 => ?_)
    refine v_icN (n := 0) dX8_table_22 (by decide) ?_
    refine v_ist2 dX8_table_23 rfl ?_
    exact lp_tb2 hW (by omega) (ih (i + 1) _ (by omega)) 4 0 (by omega)

set_option maxRecDepth 4000 in
theorem c_X8_table {G : GG} {dc : Nat} {I : Nat → Nat → Int32} {L : Nat → Nat → Int64} (hW : Wx dc I) : Cn G yX8_table cX8_table 3 (some .int) 10 0 0 [.ref 0] (Mm dc I L) (Is (some (.int (oR (dTab I) (tbR dc I)))) (oM (dTab I) dc I L (Mm dc (tbI dc I) L))) := by
  refine Cn.of' (by decide) (Nat.le_of_ble_eq_true rfl) rfl ?_
  refine v_ald0 dX8_table_0 ?_
  refine v_getI dX8_table_1 fl_X8_65 (by first | rfl | exact lay_door (by omega) | exact lay_dt (by omega) | exact lay_da (by omega) | exact lay_sh (by omega) | exact lay_se (by omega)) rfl (by omega) ?_
  refine v_if_ne (tgt := 14) dX8_table_4 (by decide) (fun h4 => ?_) (fun h4 => ?_)
  · refine v_icN (n := 0) dX8_table_14 (by decide) ?_
    refine v_ist1 dX8_table_15 rfl ?_
    simp only [dTab, if_neg h4]
    rw [oR0, oM0]
    have h9 := lp_tb (G := G) (L := L) hW 6 0 UU (by omega)
    rw [show dfM dc I (0 * 4) = I from rf2_0 _ _ _] at h9
    exact h9
  · refine v_ald0 dX8_table_7 ?_
    refine v_bipush (v := -6) dX8_table_8 (by decide) ?_
    refine v_V1 (c_X8_refuse (k := 6) (by decide) (by decide) (by decide)) lk_X8_58 dX8_table_10 (by decide) (Nat.le_of_ble_eq_true rfl) (by first | rfl | exact lay_door (by omega) | exact lay_dt (by omega) | exact lay_da (by omega) | exact lay_sh (by omega) | exact lay_se (by omega)) (show _ < 78 + 3 * _ by omega) ?_
    exact v_retI dX8_table_13 trivial (by simp only [dTab, if_pos h4]; exact ⟨rfl, rfl⟩)
